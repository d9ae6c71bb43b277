/-! NEW CELLS OF THE CLASS -/
section FRESH
variable {F : Nat} {s : XS}
/-- a new edition, at z = xZ s -/
def EdN (s s2 : XS) : Prop :=
  Old (xZ s) s s2 ∧ xZ s2 = xZ s + 13 ∧ (∀ j, j < 13 → xT s2 (xZ s + j) = tgE j ∧ (20 ≤ tgE j → xL s2 (xZ s + j) = lnE j)) ∧ (∀ j k q, rfE j k = some q → xR s2 (xZ s + j) k = some (xZ s + q)) ∧
  (xI s2 (xZ s) 4 = 0 ∧ xI s2 (xZ s + 6) 2 = 0 ∧ xI s2 (xZ s + 9) 2 = 0) ∧ WoAt s2 (xZ s + 1) (xZ s + 2) (xZ s + 3) (xZ s + 4) (xZ s + 5) 0
theorem ed_new : ∃ s2, X_Edition_init F (xNewO s 1) (xZ s) = some s2 ∧ EdN s s2 := by
  cases h : X_Edition_init F (xNewO s 1) (xZ s) with
  | none =>
    exfalso
    simp [X_Edition_init, X_Words_init, X_Bytes_init, X_Steps_init, X_Tables_init, xNewO, xNewA, xPutI, xPutR, xUp, xUq, Nat.add_assoc, xpT, xpL, xpI, xpR, xpA, xpJ, xpO, xpZ, xInt, xN] at h
  | some s2 =>
    refine ⟨s2, rfl, ?_⟩
    simp [X_Edition_init, X_Words_init, X_Bytes_init, X_Steps_init, X_Tables_init, xNewO, xNewA, xPutI, xPutR, xUp, xUq, Nat.add_assoc, xpT, xpL, xpI, xpR, xpA, xpJ, xpO, xpZ, xInt, xN] at h
    subst h
    refine ⟨fun c hc => ?_, ?_, fun j hj => ?_, fun j k q hq => ?_, ?_, ?_⟩
    · have h0 : ¬ c = xZ s := by omega
      have h1 : ¬ c = xZ s + 1 := by omega
      have h2 : ¬ c = xZ s + 2 := by omega
      have h3 : ¬ c = xZ s + 3 := by omega
      have h4 : ¬ c = xZ s + 4 := by omega
      have h5 : ¬ c = xZ s + 5 := by omega
      have h6 : ¬ c = xZ s + 6 := by omega
      have h7 : ¬ c = xZ s + 7 := by omega
      have h8 : ¬ c = xZ s + 8 := by omega
      have h9 : ¬ c = xZ s + 9 := by omega
      have h10 : ¬ c = xZ s + 10 := by omega
      have h11 : ¬ c = xZ s + 11 := by omega
      have h12 : ¬ c = xZ s + 12 := by omega
      simp [h0, h1, h2, h3, h4, h5, h6, h7, h8, h9, h10, h11, h12, xUp, xUq, Nat.add_assoc, xpT, xpL, xpI, xpR, xpA, xpJ, xpO, xpZ, xInt, xN]
      refine ⟨funext fun k => ?_, funext fun k => ?_⟩ <;> simp [h0, h1, h2, h3, h4, h5, h6, h7, h8, h9, h10, h11, h12, xUp, xUq]
    · simp [Nat.add_assoc, xpT, xpL, xpI, xpR, xpA, xpJ, xpO, xpZ, xInt, xN]
    · have hj' : j = 0 ∨ j = 1 ∨ j = 2 ∨ j = 3 ∨ j = 4 ∨ j = 5 ∨ j = 6 ∨ j = 7 ∨ j = 8 ∨ j = 9 ∨ j = 10 ∨ j = 11 ∨ j = 12 := by omega
      rcases hj' with e | e | e | e | e | e | e | e | e | e | e | e | e <;> subst e <;> simp [tgE, lnE, xUp, xUq, xpT, xpL, xpI, xpR, xpA, xpJ, xpO, xpZ, xInt, xN]
    · unfold rfE at hq
      split at hq <;> first | (cases hq; done) | skip
      all_goals
        obtain rfl := Option.some.inj hq
        simp [xUp, xUq, xpT, xpL, xpI, xpR, xpA, xpJ, xpO, xpZ, xInt, xN]
    · simp [xUp, xUq, xpT, xpL, xpI, xpR, xpA, xpJ, xpO, xpZ, xInt, xN]
    · simp [WoAt, WoSh, wc, inW, xUp, xUq, nI_0, Nat.add_assoc, xpT, xpL, xpI, xpR, xpA, xpJ, xpO, xpZ, xInt, xN]
end FRESH
