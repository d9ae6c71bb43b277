/-! NEW CELLS OF THE CLASS -/
section FRESH
variable {F : Nat} {s : XS}
/-- a new edition and its reader, at z = xZ s -/
def EdN (s s2 : XS) (d : Int32) (w : Nat) : Prop :=
  Old (xZ s) s s2 ∧ xZ s2 = xZ s + 8 ∧
  (xT s2 (xZ s) = 2 ∧ xI s2 (xZ s) 0 = d ∧ xI s2 (xZ s) 5 = 0 ∧ xR s2 (xZ s) 1 = some w ∧ xR s2 (xZ s) 2 = some (xZ s + 1) ∧ xR s2 (xZ s) 3 = some (xZ s + 4) ∧ xR s2 (xZ s) 4 = some (xZ s + 7)) ∧
  (xT s2 (xZ s + 1) = 8 ∧ xI s2 (xZ s + 1) 2 = 0 ∧ xR s2 (xZ s + 1) 0 = some (xZ s + 2) ∧ xR s2 (xZ s + 1) 1 = some (xZ s + 3)) ∧
  (xT s2 (xZ s + 2) = 20 ∧ xL s2 (xZ s + 2) = 400) ∧ (xT s2 (xZ s + 3) = 20 ∧ xL s2 (xZ s + 3) = 400) ∧
  (xT s2 (xZ s + 4) = 9 ∧ xI s2 (xZ s + 4) 2 = 0 ∧ xR s2 (xZ s + 4) 0 = some (xZ s + 5) ∧ xR s2 (xZ s + 4) 1 = some (xZ s + 6)) ∧
  (xT s2 (xZ s + 5) = 20 ∧ xL s2 (xZ s + 5) = 80) ∧ (xT s2 (xZ s + 6) = 20 ∧ xL s2 (xZ s + 6) = 8) ∧
  (xT s2 (xZ s + 7) = 46 ∧ xL s2 (xZ s + 7) = 12 ∧ ∀ k, xO s2 (xZ s + 7) k = none)
theorem ed_new (d : Int32) (w : Nat) : ∃ s2, X_Edition_init F (xNewO s 1) (xZ s) d w = some s2 ∧ EdN s s2 d w := by
  cases h : X_Edition_init F (xNewO s 1) (xZ s) d w with
  | none =>
    exfalso
    simp [X_Edition_init, X_Steps_init, X_Tables_init, xNewO, xNewA, xPutI, xPutR, xUp, xUq, Nat.add_assoc, xpT, xpL, xpI, xpR, xpA, xpJ, xpO, xpZ, xInt, xN] at h
  | some s2 =>
    refine ⟨s2, rfl, ?_⟩
    simp [X_Edition_init, X_Steps_init, X_Tables_init, xNewO, xNewA, xPutI, xPutR, xUp, xUq, Nat.add_assoc, xpT, xpL, xpI, xpR, xpA, xpJ, xpO, xpZ, xInt, xN] at h
    subst h
    refine ⟨fun c hc => ?_, ?_, ?_, ?_, ?_, ?_, ?_, ?_, ?_, ?_⟩
    · have h0 : ¬ c = xZ s := by omega
      have h1 : ¬ c = xZ s + 1 := by omega
      have h2 : ¬ c = xZ s + 2 := by omega
      have h3 : ¬ c = xZ s + 3 := by omega
      have h4 : ¬ c = xZ s + 4 := by omega
      have h5 : ¬ c = xZ s + 5 := by omega
      have h6 : ¬ c = xZ s + 6 := by omega
      have h7 : ¬ c = xZ s + 7 := by omega
      simp [h0, h1, h2, h3, h4, h5, h6, h7, xUp, xUq, Nat.add_assoc, xpT, xpL, xpI, xpR, xpA, xpJ, xpO, xpZ, xInt, xN]
      refine ⟨funext fun k => ?_, funext fun k => ?_⟩ <;> simp [h0, h1, h2, h3, h4, h5, h6, h7, xUp, xUq]
    all_goals simp [xUp, xUq, Nat.add_assoc, xpT, xpL, xpI, xpR, xpA, xpJ, xpO, xpZ, xInt, xN]
/-- a reader, at xZ s -/
def RdN (s s2 : XS) (z w st : Nat) : Prop :=
  Old (xZ s) s s2 ∧ xZ s2 = xZ s + 4 ∧
  (xT s2 (xZ s) = 10 ∧ xR s2 (xZ s) 0 = some z ∧ xR s2 (xZ s) 1 = some w ∧ xR s2 (xZ s) 2 = some st ∧ xR s2 (xZ s) 3 = some (xZ s + 1) ∧ xI s2 (xZ s) 4 = 0 ∧ xI s2 (xZ s) 5 = 0 ∧ xI s2 (xZ s) 6 = -1 ∧ xI s2 (xZ s) 7 = 0) ∧
  (xT s2 (xZ s + 1) = 8 ∧ xI s2 (xZ s + 1) 2 = 0 ∧ xR s2 (xZ s + 1) 0 = some (xZ s + 2) ∧ xR s2 (xZ s + 1) 1 = some (xZ s + 3)) ∧
  (xT s2 (xZ s + 2) = 20 ∧ xL s2 (xZ s + 2) = 400) ∧ (xT s2 (xZ s + 3) = 20 ∧ xL s2 (xZ s + 3) = 400)
theorem rd_new {z w st : Nat} (hz : z < xZ s) (t : xT s z = 2) (r1 : xR s z 1 = some w) (r2 : xR s z 2 = some st) : ∃ s2, X_TextReader_init F (xNewO s 9) (xZ s) z = some s2 ∧ RdN s s2 z w st := by
  have g0 : ¬ z = xZ s := by omega
  cases h : X_TextReader_init F (xNewO s 9) (xZ s) z with
  | none =>
    exfalso
    simp [X_TextReader_init, X_Steps_init, xNewO, xNewA, xPutI, xPutR, xGetA, xUp, xUq, g0, t, r1, r2, Nat.add_assoc, xpT, xpL, xpI, xpR, xpA, xpJ, xpO, xpZ, xInt, xN] at h
  | some s2 =>
    refine ⟨s2, rfl, ?_⟩
    simp [X_TextReader_init, X_Steps_init, xNewO, xNewA, xPutI, xPutR, xGetA, xUp, xUq, g0, t, r1, r2, Nat.add_assoc, xpT, xpL, xpI, xpR, xpA, xpJ, xpO, xpZ, xInt, xN] at h
    subst h
    refine ⟨fun c hc => ?_, ?_, ?_, ?_, ?_, ?_⟩
    · have h0 : ¬ c = xZ s := by omega
      have h1 : ¬ c = xZ s + 1 := by omega
      have h2 : ¬ c = xZ s + 2 := by omega
      have h3 : ¬ c = xZ s + 3 := by omega
      simp [h0, h1, h2, h3, xUp, xUq, Nat.add_assoc, xpT, xpL, xpI, xpR, xpA, xpJ, xpO, xpZ, xInt, xN]
      refine ⟨funext fun k => ?_, funext fun k => ?_⟩ <;> simp [h0, h1, h2, h3, xUp, xUq]
    all_goals simp [xUp, xUq, Nat.add_assoc, xpT, xpL, xpI, xpR, xpA, xpJ, xpO, xpZ, xInt, xN]
/-- new words, at xZ s -/
def WoN (s s2 : XS) : Prop := Old (xZ s) s s2 ∧ xZ s2 = xZ s + 5 ∧ WoAt s2 (xZ s) (xZ s + 1) (xZ s + 2) (xZ s + 3) (xZ s + 4) 0
theorem wo_new : ∃ s2, X_Words_init F (xNewO s 10) (xZ s) = some s2 ∧ WoN s s2 := by
  cases h : X_Words_init F (xNewO s 10) (xZ s) with
  | none =>
    exfalso
    simp [X_Words_init, X_Bytes_init, xNewO, xNewA, xPutI, xPutR, xUp, xUq, Nat.add_assoc, xpT, xpL, xpI, xpR, xpA, xpJ, xpO, xpZ, xInt, xN] at h
  | some s2 =>
    refine ⟨s2, rfl, ?_⟩
    simp [X_Words_init, X_Bytes_init, xNewO, xNewA, xPutI, xPutR, xUp, xUq, Nat.add_assoc, xpT, xpL, xpI, xpR, xpA, xpJ, xpO, xpZ, xInt, xN] at h
    subst h
    refine ⟨fun c hc => ?_, ?_, ?_⟩
    · have h0 : ¬ c = xZ s := by omega
      have h1 : ¬ c = xZ s + 1 := by omega
      have h2 : ¬ c = xZ s + 2 := by omega
      have h3 : ¬ c = xZ s + 3 := by omega
      have h4 : ¬ c = xZ s + 4 := by omega
      simp [h0, h1, h2, h3, h4, xUp, xUq, Nat.add_assoc, xpT, xpL, xpI, xpR, xpA, xpJ, xpO, xpZ, xInt, xN]
      refine ⟨funext fun k => ?_, funext fun k => ?_⟩ <;> simp [h0, h1, h2, h3, h4, xUp, xUq]
    · simp [xUp, xUq, Nat.add_assoc, xpT, xpL, xpI, xpR, xpA, xpJ, xpO, xpZ, xInt, xN]
    · simp [WoAt, WoSh, wc, inW, xUp, xUq, nI_0, Nat.add_assoc, xpT, xpL, xpI, xpR, xpA, xpJ, xpO, xpZ, xInt, xN]
end FRESH
