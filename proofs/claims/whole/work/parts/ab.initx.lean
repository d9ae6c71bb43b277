/-! THE CLASS's CONSTRUCTOR -/
def offA (r : Nat) : Nat := if r < 2 then r else if r ≤ 20 then r + 17 else if r ≤ 25 then r - 18 else if r = 26 then 2 else r - 19
section INITX
variable {F : Nat} {s : XS}
def IniX (s s2 : XS) : Prop :=
  (∀ r, r < 38 → xT s2 (xZ s + offA r) = tg r ∧ (20 ≤ tg r → xL s2 (xZ s + offA r) = ln r)) ∧ (∀ r k q, rf r k = some q → xR s2 (xZ s + offA r) k = some (xZ s + offA q)) ∧ (∀ k, xO s2 (xZ s + 1) k = none) ∧ xZ s2 = xZ s + 38 ∧ (∀ k, xI s2 (xZ s) k = 0 ) ∧ xI s2 (xZ s + 34) 1 = 0 ∧ xI s2 (xZ s + 24) 4 = 0 ∧ xI s2 (xZ s + 4) 1 = 0 ∧ xI s2 (xZ s + 3) 3 = 0 ∧ xI s2 (xZ s + 3) 4 = 0 ∧ (xI s2 (xZ s + 2) 4 = 0 ∧ xI s2 (xZ s + 8) 2 = 0 ∧ xI s2 (xZ s + 11) 2 = 0) ∧ (∀ k, xJ s2 (xZ s + 20) k = 0 ∧ xA s2 (xZ s + 21) k = 0 ∧ xJ s2 (xZ s + 37) k = 0)
theorem lt_new : ∃ s2, X_LT_init F (xNewO s 11) (xZ s) = some s2 ∧ IniX s s2 := by
  cases h : X_LT_init F (xNewO s 11) (xZ s) with
  | none =>
    exfalso
    simp [X_LT_init, X_Edition_init, X_TextReader_init, X_Steps_init, X_Tables_init, X_Words_init, X_Bytes_init, X_Facts_init, X_Reckoner_init, X_Findings_init, X_Hauls_init, xNewO, xNewA, xPutI, xPutR, xGetA, xUp, xUq, Nat.add_assoc, xpT, xpL, xpI, xpR, xpA, xpJ, xpO, xpZ, xInt, xN] at h
  | some s2 =>
    refine ⟨s2, rfl, ?_⟩
    simp [X_LT_init, X_Edition_init, X_TextReader_init, X_Steps_init, X_Tables_init, X_Words_init, X_Bytes_init, X_Facts_init, X_Reckoner_init, X_Findings_init, X_Hauls_init, xNewO, xNewA, xPutI, xPutR, xGetA, xUp, xUq, Nat.add_assoc, xpT, xpL, xpI, xpR, xpA, xpJ, xpO, xpZ, xInt, xN] at h
    subst h
    refine ⟨fun r hr => ?_, fun r k q hq => ?_, ?_, ?_, ?_, ?_, ?_, ?_, ?_, ?_, ?_, ?_⟩
    · have hr' : r = 0 ∨ r = 1 ∨ r = 2 ∨ r = 3 ∨ r = 4 ∨ r = 5 ∨ r = 6 ∨ r = 7 ∨ r = 8 ∨ r = 9 ∨ r = 10 ∨ r = 11 ∨ r = 12 ∨ r = 13 ∨ r = 14 ∨ r = 15 ∨ r = 16 ∨ r = 17 ∨ r = 18 ∨ r = 19 ∨ r = 20 ∨ r = 21 ∨ r = 22 ∨ r = 23 ∨ r = 24 ∨ r = 25 ∨ r = 26 ∨ r = 27 ∨ r = 28 ∨ r = 29 ∨ r = 30 ∨ r = 31 ∨ r = 32 ∨ r = 33 ∨ r = 34 ∨ r = 35 ∨ r = 36 ∨ r = 37 := by omega
      rcases hr' with e | e | e | e | e | e | e | e | e | e | e | e | e | e | e | e | e | e | e | e | e | e | e | e | e | e | e | e | e | e | e | e | e | e | e | e | e | e <;> subst e <;> simp [offA, tg, ln, xUp, xUq, xpT, xpL, xpI, xpR, xpA, xpJ, xpO, xpZ, xInt, xN]
    · unfold rf at hq
      split at hq <;> first | (cases hq; done) | skip
      all_goals
        obtain rfl := Option.some.inj hq
        simp [offA, xUp, xUq, xpT, xpL, xpI, xpR, xpA, xpJ, xpO, xpZ, xInt, xN]
    all_goals simp [xUp, xUq, xpT, xpL, xpI, xpR, xpA, xpJ, xpO, xpZ, xInt, xN]
theorem offA_i : ∀ i, i < 38 → offA i < 38 ∧ ∀ j, j < 38 → offA i = offA j → i = j := by decide
/-- both begin alike -/
theorem init_inv {s2 : XS} (h : IniX s s2) : Inv s2 (fun r => xZ s + offA r) mZ 0 (fun _ => 0) (fun _ => E0 0 0) 0 (fun _ => 0) 0 := by
  obtain ⟨h1, h2, h3, h4, h5, h6, h7, h8, h9, h10, h12, h11⟩ := h
  have e0 : nI 0 = 0 := nI_0
  have L : Lay (fun r => xZ s + offA r) := by
    refine ⟨fun j hj => ?_, fun j hj => ?_, fun j hj => ?_⟩
    · have : ∀ j, j < 5 → offA (21 + j) = offA 26 + (1 + j) := by decide
      show xZ s + offA (21 + j) = xZ s + offA 26 + (1 + j)
      rw [this j hj]; omega
    · have : ∀ j, j < 7 → offA (27 + j) = offA 26 + (6 + j) := by decide
      show xZ s + offA (27 + j) = xZ s + offA 26 + (6 + j)
      rw [this j hj]; omega
    · have : ∀ j, j < 3 → offA (35 + j) = offA 34 + (1 + j) := by decide
      show xZ s + offA (35 + j) = xZ s + offA 34 + (1 + j)
      rw [this j hj]; omega
  refine ⟨⟨h1, h2, fun e j he => by omega, fun e j k q he => by omega, fun e k he => by omega, fun e he => by omega, fun e _ => h3 e, fun e he => by omega, by omega, fun r hr => ?_, fun i j hi hj e => ?_⟩, ⟨⟨?_, h8, by omega, h9, h10, fun i hi => by simp [wc] at hi⟩, rfl, fun i hi => by omega, fun i hi => by omega, L, h12.1, h12.2.1, h12.2.2⟩, fun j hj => ⟨(h11 j).1, (h11 j).2.1, Or.inl (h11 j).2.1⟩, fun j hj => ⟨(h11 j).2.2, rfl, Nat.le_refl _⟩, ⟨0, by omega, h6, rfl, fun i hi => by omega⟩, ⟨⟨h5 1, rfl⟩, fun e he => by omega⟩, ⟨none, fun _ => (0, 0, 0, 0), rfl, fun e q => (by cases q), ⟨h7, by simp [lc2], fun r hr => by simp [lc2] at hr⟩, fun r hr => by simp [lc2] at hr⟩, fun e he => by omega⟩
  · rcases hr with h | ⟨e, j, he, -⟩
    · have := (offA_i r h).1
      show xZ s + offA r < xZ s2
      rw [h4]; omega
    · omega
  · rcases hi with hi | ⟨e, j, he, -⟩
    · rcases hj with hj | ⟨e, j, he, -⟩
      · have e : xZ s + offA i = xZ s + offA j := e
        exact (offA_i i hi).2 j hj (by omega)
      · omega
    · omega
  · obtain ⟨a1, b1⟩ := h1 21 (by decide)
    obtain ⟨a2, b2⟩ := h1 22 (by decide)
    obtain ⟨a3, b3⟩ := h1 23 (by decide)
    obtain ⟨a4, b4⟩ := h1 24 (by decide)
    obtain ⟨a5, b5⟩ := h1 25 (by decide)
    exact ⟨a1, h2 21 0 22 rfl, h2 21 1 24 rfl, h2 21 2 25 rfl, a2, h2 22 0 23 rfl, a3, b3 (by decide), a4, b4 (by decide), a5, b5 (by decide), by simp [offA], by simp [offA]⟩
end INITX
