/-! FINDINGS -/
def FiSh (s : XS) (v w0 w1 w2 w3 : Nat) : Prop := xT s v = 4 ∧ xR s v 0 = some w0 ∧ xR s v 1 = some w1 ∧ xR s v 2 = some w2 ∧ xR s v 3 = some w3 ∧ (xT s w0 = 20 ∧ xL s w0 = 12) ∧ (xT s w1 = 20 ∧ xL s w1 = 12) ∧ (xT s w2 = 20 ∧ xL s w2 = 12) ∧ (xT s w3 = 20 ∧ xL s w3 = 12) ∧ w0 ≠ w1 ∧ w0 ≠ w2 ∧ w0 ≠ w3 ∧ w1 ≠ w2 ∧ w1 ≠ w3 ∧ w2 ≠ w3
/-- c findings: outcome, reason, untold, first word -/
def FiAt (s : XS) (v w0 w1 w2 w3 c : Nat) (o : Nat → Int32 × Int32 × Int32 × Int32) : Prop := xI s v 4 = nI c ∧ c ≤ 12 ∧ ∀ r, r < c → xA s w0 r = (o r).1 ∧ xA s w1 r = (o r).2.1 ∧ xA s w2 r = (o r).2.2.1 ∧ xA s w3 r = (o r).2.2.2
section FIND
variable {F : Nat} {s : XS} {v w0 w1 w2 w3 c : Nat} {o : Nat → Int32 × Int32 × Int32 × Int32}
theorem FiSh.fr {s2 : XS} (h : FiSh s v w0 w1 w2 w3) (hT : xT s2 = xT s) (hL : xL s2 = xL s) (hR : xR s2 = xR s) : FiSh s2 v w0 w1 w2 w3 := by
  unfold FiSh
  rw [hT, hL, hR]
  exact h
theorem fi_clear (W : FiSh s v w0 w1 w2 w3) : X_Findings_clear F s v = some (xT s, xL s, xUp (xI s) v 4 0, xR s, xA s, xJ s, xO s, xZ s) := by
  simp [X_Findings_clear, xPutI, W.1, xpT, xpL, xpI, xpR, xpA, xpJ, xpO, xpZ, xInt, xN]
theorem fi_has_in (W : FiSh s v w0 w1 w2 w3) (A : FiAt s v w0 w1 w2 w3 c o) {r : Nat} (hr : r < c) : X_Findings_has F s v (nI r) = some (1, s) := by
  have h1 : ¬ nI r < 0 := nI_pos (by have := A.2.1; omega)
  have h2 : ¬ nI c ≤ nI r := nI_ge hr (by have := A.2.1; omega)
  have h3 : ¬ (12 : Int32) ≤ nI r := nI_ge (b := 12) (by have := A.2.1; omega) (by decide)
  simp [X_Findings_has, h1, xGetI, W.1, A.1, h2, h3, xpT, xpL, xpI, xpR, xpA, xpJ, xpO, xpZ, xInt, xN]
theorem fi_has_out (W : FiSh s v w0 w1 w2 w3) (A : FiAt s v w0 w1 w2 w3 c o) {x : Int32} (hx : x < 0 ∨ nI c ≤ x) : X_Findings_has F s v x = some (0, s) := by
  by_cases h1 : x < 0
  · simp [X_Findings_has, h1]
  · simp [X_Findings_has, h1, xGetI, W.1, A.1, hx.resolve_left h1, xpT, xpL, xpI, xpR, xpA, xpJ, xpO, xpZ, xInt, xN]
theorem fi_in (W : FiSh s v w0 w1 w2 w3) (A : FiAt s v w0 w1 w2 w3 c o) {r : Nat} (hr : r < c) : X_Findings_outcomeOf F s v (nI r) = some ((o r).1, s) ∧ X_Findings_reasonOf F s v (nI r) = some ((o r).2.1, s) ∧ X_Findings_untoldOf F s v (nI r) = some ((o r).2.2.1, s) ∧ X_Findings_firstWordOf F s v (nI r) = some ((o r).2.2.2, s) := by
  have e := fi_has_in (F := F) W A hr
  obtain ⟨tv, r0, r1, r2, r3, ⟨t0, l0⟩, ⟨t1, l1⟩, ⟨t2, l2⟩, ⟨t3, l3⟩, -⟩ := W
  obtain ⟨a1, a2, a3⟩ := A
  obtain ⟨q0, q1, q2, q3⟩ := a3 r hr
  have h1 : ¬ nI r < 0 := nI_pos (by omega)
  have hc : (nI r).toNatClampNeg = r := nI_clamp (by omega)
  have h3 : ¬ 12 ≤ r := by omega
  refine ⟨?_, ?_, ?_, ?_⟩
  · simp [X_Findings_outcomeOf, xIs, tv, e, xGetA, r0, xLdI, t0, l0, h1, hc, h3, q0, xpT, xpL, xpI, xpR, xpA, xpJ, xpO, xpZ, xInt, xN]
  · simp [X_Findings_reasonOf, xIs, tv, e, xGetA, r1, xLdI, t1, l1, h1, hc, h3, q1, xpT, xpL, xpI, xpR, xpA, xpJ, xpO, xpZ, xInt, xN]
  · simp [X_Findings_untoldOf, xIs, tv, e, xGetA, r2, xLdI, t2, l2, h1, hc, h3, q2, xpT, xpL, xpI, xpR, xpA, xpJ, xpO, xpZ, xInt, xN]
  · simp [X_Findings_firstWordOf, xIs, tv, e, xGetA, r3, xLdI, t3, l3, h1, hc, h3, q3, xpT, xpL, xpI, xpR, xpA, xpJ, xpO, xpZ, xInt, xN]
theorem fi_out (W : FiSh s v w0 w1 w2 w3) (A : FiAt s v w0 w1 w2 w3 c o) {x : Int32} (hx : x < 0 ∨ nI c ≤ x) : X_Findings_outcomeOf F s v x = some (-1, s) ∧ X_Findings_reasonOf F s v x = some (-1, s) ∧ X_Findings_untoldOf F s v x = some (-1, s) ∧ X_Findings_firstWordOf F s v x = some (-1, s) := by
  have e := fi_has_out (F := F) W A hx
  have tv := W.1
  refine ⟨?_, ?_, ?_, ?_⟩
  · simp [X_Findings_outcomeOf, xIs, tv, e]
  · simp [X_Findings_reasonOf, xIs, tv, e]
  · simp [X_Findings_untoldOf, xIs, tv, e]
  · simp [X_Findings_firstWordOf, xIs, tv, e]
theorem fi_add (W : FiSh s v w0 w1 w2 w3) (A : FiAt s v w0 w1 w2 w3 c o) (hc : c < 12) (x1 x2 x3 x4 : Int32) : ∃ s2, X_Findings_add F s v x1 x2 x3 x4 = some s2 ∧ FiAt s2 v w0 w1 w2 w3 (c + 1) (fun r => if r = c then (x1, x2, x3, x4) else o r) ∧ Fr s s2 [v] [w0, w1, w2, w3] := by
  obtain ⟨tv, r0, r1, r2, r3, ⟨t0, l0⟩, ⟨t1, l1⟩, ⟨t2, l2⟩, ⟨t3, l3⟩, n01, n02, n03, n12, n13, n23⟩ := W
  obtain ⟨a1, a2, a3⟩ := A
  have h1 : ¬ nI c < 0 := nI_pos (by omega)
  have h2 : ¬ (12 : Int32) ≤ nI c := nI_ge (b := 12) hc (by decide)
  have hcl : (nI c).toNatClampNeg = c := nI_clamp (by omega)
  have h3 : ¬ 12 ≤ c := by omega
  refine ⟨(xT s, xL s, xUp (xI s) v 4 (nI (c + 1)), xR s, xUp (xUp (xUp (xUp (xA s) w0 c x1) w1 c x2) w2 c x3) w3 c x4, xJ s, xO s, xZ s), ?_, ?_, ?_⟩
  · simp [X_Findings_add, xGetI, tv, a1, h1, h2, xGetA, r0, r1, r2, r3, xStI, xSt, t0, l0, t1, l1, t2, l2, t3, l3, hcl, h3, xPutI, nI_1, xpT, xpL, xpI, xpR, xpA, xpJ, xpO, xpZ, xInt, xN]
  · refine ⟨by simp [xUp, xpT, xpL, xpI, xpR, xpA, xpJ, xpO, xpZ, xInt, xN], by omega, fun r hr => ?_⟩
    by_cases e : r = c
    · subst e
      simp [xUp, n01, n02, n03, n12, n13, n23, xpT, xpL, xpI, xpR, xpA, xpJ, xpO, xpZ, xInt, xN]
    · obtain ⟨q0, q1, q2, q3⟩ := a3 r (by omega)
      simp [xUp, e, q0, q1, q2, q3, xpT, xpL, xpI, xpR, xpA, xpJ, xpO, xpZ, xInt, xN]
  · refine ⟨rfl, rfl, rfl, rfl, rfl, rfl, fun d hd => ?_, fun d hd => ?_⟩
    · exact xUp_ne _ _ _ (fun e => hd (by simp [e]))
    · simp only [List.mem_cons, not_or] at hd
      rw [xpA, xUp_ne _ _ _ hd.2.2.2.1, xUp_ne _ _ _ hd.2.2.1, xUp_ne _ _ _ hd.2.1, xUp_ne _ _ _ hd.1]
/-- the k-th rule of an outcome: over d rules from r on -/
def rnk (o : Nat → Int32) (x k : Int32) : Nat → Nat → Int32 → Int32
  | 0, _, _ => -1
  | d + 1, r, q => if o r = x then (if q = k then nI r else rnk o x k d (r + 1) (q + 1)) else rnk o x k d (r + 1) q
theorem fi_rankL (W : FiSh s v w0 w1 w2 w3) (A : FiAt s v w0 w1 w2 w3 c o) (x k : Int32) : ∀ (d r z : Nat) (q : Int32), r + d = c → d < z → X_Findings_rankedAs_5 F z s v x k q (nI r) = some (rnk (fun r => (o r).1) x k d r q, s) := by
  intro d
  induction d with
  | zero =>
    intro r z q hr hz
    obtain ⟨z, rfl⟩ : ∃ y, z = y + 1 := ⟨z - 1, by omega⟩
    have h2 : nI c ≤ nI r := nI_le (by omega) (by have := A.2.1; omega)
    simp [X_Findings_rankedAs_5, BX_Findings_rankedAs_5, xGetI, W.1, A.1, h2, rnk, xpT, xpL, xpI, xpR, xpA, xpJ, xpO, xpZ, xInt, xN]
  | succ d ih =>
    intro r z q hr hz
    obtain ⟨z, rfl⟩ : ∃ y, z = y + 1 := ⟨z - 1, by omega⟩
    have h2 : ¬ nI c ≤ nI r := nI_ge (by omega) (by have := A.2.1; omega)
    have e := (fi_in (F := F) W A (r := r) (by omega)).1
    have i1 := fun q => ih (r + 1) z q (by omega) (by omega)
    by_cases g : (o r).1 = x
    · by_cases g2 : q = k
      · simp [X_Findings_rankedAs_5, BX_Findings_rankedAs_5, xGetI, W.1, A.1, h2, xIs, e, g, g2, rnk, xpT, xpL, xpI, xpR, xpA, xpJ, xpO, xpZ, xInt, xN]
      · simp [X_Findings_rankedAs_5, BX_Findings_rankedAs_5, xGetI, W.1, A.1, h2, xIs, e, g, g2, rnk, X_Findings_rankedAs_35, nI_1, i1, xpT, xpL, xpI, xpR, xpA, xpJ, xpO, xpZ, xInt, xN]
    · simp [X_Findings_rankedAs_5, BX_Findings_rankedAs_5, xGetI, W.1, A.1, h2, xIs, e, g, rnk, X_Findings_rankedAs_35, nI_1, i1, xpT, xpL, xpI, xpR, xpA, xpJ, xpO, xpZ, xInt, xN]
theorem fi_rank (W : FiSh s v w0 w1 w2 w3) (A : FiAt s v w0 w1 w2 w3 c o) (hF : 12 < F) (x k : Int32) : X_Findings_rankedAs F s v x k = some (rnk (fun r => (o r).1) x k c 0 0, s) := by
  have := fi_rankL (F := F) W A x k c 0 F 0 (by omega) (by have := A.2.1; omega)
  rw [nIk0] at this
  exact this
/-- the first one -/
def fsto (o : Nat → Int32) (x : Int32) : Nat → Option Nat
  | 0 => none
  | d + 1 => match fsto o x d with
    | some r => some r
    | none => if o d = x then some d else none
theorem fsto_none {o : Nat → Int32} {x : Int32} : ∀ {d : Nat}, fsto o x d = none → ∀ j, j < d → o j ≠ x := by
  intro d
  induction d with
  | zero => intro _ j hj; omega
  | succ d ih =>
    intro h j hj
    unfold fsto at h
    cases hd : fsto o x d with
    | some r => rw [hd] at h; cases h
    | none =>
      rw [hd] at h
      by_cases e : j = d
      · subst e
        intro q
        simp [q] at h
      · exact ih hd j (by omega)
theorem fsto_some {o : Nat → Int32} {x : Int32} : ∀ {d r : Nat}, fsto o x d = some r → r < d ∧ o r = x ∧ ∀ j, j < r → o j ≠ x := by
  intro d
  induction d with
  | zero => intro r h; simp [fsto] at h
  | succ d ih =>
    intro r h
    unfold fsto at h
    cases hd : fsto o x d with
    | some r' =>
      rw [hd] at h
      simp at h
      subst h
      obtain ⟨a, b, c⟩ := ih hd
      exact ⟨by omega, b, c⟩
    | none =>
      rw [hd] at h
      by_cases e : o d = x
      · simp [e] at h
        subst h
        exact ⟨by omega, e, fsto_none hd⟩
      · simp [e] at h
theorem rnk_skip {o : Nat → Int32} {x k : Int32} : ∀ (d r : Nat) (q : Int32), (∀ j, r ≤ j → j < r + d → o j ≠ x) → rnk o x k d r q = -1 := by
  intro d
  induction d with
  | zero => intro r q _; rfl
  | succ d ih =>
    intro r q h
    simp only [rnk]
    rw [if_neg (h r (by omega) (by omega))]
    exact ih (r + 1) q (fun j h1 h2 => h j (by omega) (by omega))
theorem rnk_first {o : Nat → Int32} {x : Int32} : ∀ (d r : Nat) (t : Nat), r ≤ t → t < r + d → o t = x → (∀ j, r ≤ j → j < t → o j ≠ x) → rnk o x 0 d r 0 = nI t := by
  intro d
  induction d with
  | zero => intro r t h1 h2; omega
  | succ d ih =>
    intro r t h1 h2 h3 h4
    simp only [rnk]
    by_cases e : r = t
    · subst e; rw [if_pos h3, if_pos trivial]
    · rw [if_neg (h4 r (by omega) (by omega))]
      exact ih (r + 1) t (by omega) (by omega) h3 (fun j g1 g2 => h4 j (by omega) g2)
theorem rnk0 (o : Nat → Int32) (x : Int32) (d : Nat) : rnk o x 0 d 0 0 = match fsto o x d with | some r => nI r | none => -1 := by
  cases h : fsto o x d with
  | none => exact rnk_skip d 0 0 (fun j _ hj => fsto_none h j (by omega))
  | some r =>
    obtain ⟨a, b, c⟩ := fsto_some h
    exact rnk_first d 0 r (by omega) (by omega) b (fun j _ hj => c j hj)
/-- what run answers, of the outcomes -/
def ans (o : Nat → Int32) (d : Nat) : Int32 := match fsto o 1 d with
  | some r => nI (r + 1)
  | none => match fsto o 2 d with
    | some _ => -1
    | none => 0
theorem fi_answer (W : FiSh s v w0 w1 w2 w3) (A : FiAt s v w0 w1 w2 w3 c o) (hF : 12 < F) : X_Findings_answer F s v = some (ans (fun r => (o r).1) c, s) := by
  have e1 := fi_rank W A hF 1 0
  have e2 := fi_rank W A hF 2 0
  rw [rnk0] at e1 e2
  unfold ans
  cases h1 : fsto (fun r => (o r).1) 1 c with
  | some r =>
    rw [h1] at e1
    have := (fsto_some h1).1
    have hm := nI_ne_m1 (j := r) (by have := A.2.1; omega)
    have h9 : 1 + nI r = nI (r + 1) := by rw [Int32.add_comm, nI_1]
    simp [X_Findings_answer, xIs, W.1, e1, hm, h9]
  | none =>
    rw [h1] at e1
    cases h2 : fsto (fun r => (o r).1) 2 c with
    | some r =>
      rw [h2] at e2
      have := (fsto_some h2).1
      have hm := nI_ne_m1 (j := r) (by have := A.2.1; omega)
      simp [X_Findings_answer, xIs, W.1, e1, e2, hm]
    | none =>
      rw [h2] at e2
      simp [X_Findings_answer, xIs, W.1, e1, e2]
end FIND
