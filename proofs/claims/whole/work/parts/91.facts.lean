/-! FACTS -/
section FACTS
variable {F : Nat} {s : XS} {a : Nat → Nat} {n : Nat} {rc : Nat → Nat}
theorem X_Facts_has_eq (H : Sh s a n rc) (x : Int32) : X_Facts_has F s (a 2) x = some (if x < 0 ∨ 20 ≤ x then 0 else 1, s) := by
  have t2 : xT s (a 2) = 3 := H.t 2
  have r2_0 : xR s (a 2) 0 = some (a 3) := H.r 2 0
  have r2_1 : xR s (a 2) 1 = some (a 4) := H.r 2 1
  have t3 : xT s (a 3) = 23 := H.t 3
  have l3 : xL s (a 3) = 20 := H.l 3
  have t4 : xT s (a 4) = 22 := H.t 4
  have l4 : xL s (a 4) = 20 := H.l 4
  have e20 : Int32.ofNat 20 = 20 := rfl
  by_cases h1 : x < 0
  · simp [X_Facts_has, h1]
  · by_cases h2 : (20 : Int32) ≤ x
    · simp [X_Facts_has, xGetA, xLen, t2, r2_0, t3, l3, e20, h1, h2, xpT, xpL, xpI, xpR, xpA, xpJ, xpO, xpZ, xInt, xN]
    · simp [X_Facts_has, xGetA, xLen, t2, r2_0, r2_1, t3, l3, t4, l4, e20, h1, h2, xpT, xpL, xpI, xpR, xpA, xpJ, xpO, xpZ, xInt, xN]
theorem X_Facts_put_out (H : Sh s a n rc) {x : Int32} (hx : x < 0 ∨ 20 ≤ x) (v : Int64) (b : Int32) : X_Facts_put F s (a 2) x v b = some s := by
  have t2 : xT s (a 2) = 3 := H.t 2
  have r2_0 : xR s (a 2) 0 = some (a 3) := H.r 2 0
  have r2_1 : xR s (a 2) 1 = some (a 4) := H.r 2 1
  simp [X_Facts_put, xIs, t2, X_Facts_has_eq H, hx]
theorem X_Facts_put_in (H : Sh s a n rc) {j : Nat} (hj : j < 20) (v : Int64) (b : Int32) : X_Facts_put F s (a 2) (nI j) v b = some (xT s, xL s, xI s, xR s, xUp (xA s) (a 4) j (b &&& 1), xUp (xJ s) (a 3) j v, xO s, xZ s) := by
  have t2 : xT s (a 2) = 3 := H.t 2
  have r2_0 : xR s (a 2) 0 = some (a 3) := H.r 2 0
  have r2_1 : xR s (a 2) 1 = some (a 4) := H.r 2 1
  have t3 : xT s (a 3) = 23 := H.t 3
  have l3 : xL s (a 3) = 20 := H.l 3
  have t4 : xT s (a 4) = 22 := H.t 4
  have l4 : xL s (a 4) = 20 := H.l 4
  have h1 : ¬ (nI j < 0) := nI_pos (by omega)
  have h2 : ¬ ((20 : Int32) ≤ nI j) := nI_ge (b := 20) hj (by decide)
  have hc : (nI j).toNatClampNeg = j := nI_clamp (by omega)
  have h3 : ¬ 20 ≤ j := by omega
  simp [X_Facts_put, xIs, t2, X_Facts_has_eq H, h1, h2, xGetA, r2_0, r2_1, xStL, xStZ, xSt, t3, l3, t4, l4, hc, h3, xpT, xpL, xpI, xpR, xpA, xpJ, xpO, xpZ, xInt, xN]
theorem X_Facts_isTold_eq (H : Sh s a n rc) {j : Nat} (hj : j < 20) : X_Facts_isTold F s (a 2) (nI j) = some (if xA s (a 4) j = 0 then 0 else 1, s) := by
  have t2 : xT s (a 2) = 3 := H.t 2
  have r2_0 : xR s (a 2) 0 = some (a 3) := H.r 2 0
  have r2_1 : xR s (a 2) 1 = some (a 4) := H.r 2 1
  have t3 : xT s (a 3) = 23 := H.t 3
  have l3 : xL s (a 3) = 20 := H.l 3
  have t4 : xT s (a 4) = 22 := H.t 4
  have l4 : xL s (a 4) = 20 := H.l 4
  have h1 : ¬ (nI j < 0) := nI_pos (by omega)
  have h2 : ¬ ((20 : Int32) ≤ nI j) := nI_ge (b := 20) hj (by decide)
  have e20 : Int32.ofNat 20 = 20 := rfl
  have hc : (nI j).toNatClampNeg = j := nI_clamp (by omega)
  have h3 : ¬ 20 ≤ j := by omega
  by_cases h4 : xA s (a 4) j = 0
  · simp [X_Facts_isTold, xGetA, xLen, xLdI, t2, r2_1, t4, l4, e20, h1, h2, hc, h3, h4, xpT, xpL, xpI, xpR, xpA, xpJ, xpO, xpZ, xInt, xN]
  · simp [X_Facts_isTold, xGetA, xLen, xLdI, t2, r2_1, t4, l4, e20, h1, h2, hc, h3, h4, xpT, xpL, xpI, xpR, xpA, xpJ, xpO, xpZ, xInt, xN]
theorem X_Facts_valueOf_eq (H : Sh s a n rc) {j : Nat} (hj : j < 20) : X_Facts_valueOf F s (a 2) (nI j) = some (xJ s (a 3) j, s) := by
  have t2 : xT s (a 2) = 3 := H.t 2
  have r2_0 : xR s (a 2) 0 = some (a 3) := H.r 2 0
  have r2_1 : xR s (a 2) 1 = some (a 4) := H.r 2 1
  have t3 : xT s (a 3) = 23 := H.t 3
  have l3 : xL s (a 3) = 20 := H.l 3
  have t4 : xT s (a 4) = 22 := H.t 4
  have l4 : xL s (a 4) = 20 := H.l 4
  have h1 : ¬ (nI j < 0) := nI_pos (by omega)
  have h2 : ¬ ((20 : Int32) ≤ nI j) := nI_ge (b := 20) hj (by decide)
  have e20 : Int32.ofNat 20 = 20 := rfl
  have hc : (nI j).toNatClampNeg = j := nI_clamp (by omega)
  have h3 : ¬ 20 ≤ j := by omega
  simp [X_Facts_valueOf, xGetA, xLen, xLdL, t2, r2_0, t3, l3, e20, h1, h2, hc, h3, xpT, xpL, xpI, xpR, xpA, xpJ, xpO, xpZ, xInt, xN]
theorem X_LT_fact_out (H : Sh s a n rc) {x : Int32} (hx : x < 0 ∨ 20 ≤ x) (v : Int64) : X_LT_fact F s (a 0) x v = some (0, s) := by
  have t0 : xT s (a 0) = 12 := H.t 0
  have r0_0 : xR s (a 0) 0 = some (a 1) := H.r 0 0
  have r0_2 : xR s (a 0) 2 = some (a 26) := H.r 0 2
  have r0_3 : xR s (a 0) 3 = some (a 34) := H.r 0 3
  have r0_4 : xR s (a 0) 4 = some (a 2) := H.r 0 4
  have r0_5 : xR s (a 0) 5 = some (a 5) := H.r 0 5
  have r0_6 : xR s (a 0) 6 = some (a 7) := H.r 0 6
  have r0_7 : xR s (a 0) 7 = some (a 12) := H.r 0 7
  have r0_8 : xR s (a 0) 8 = some (a 17) := H.r 0 8
  have r0_9 : xR s (a 0) 9 = some (a 19) := H.r 0 9
  have t2 : xT s (a 2) = 3 := H.t 2
  have r2_0 : xR s (a 2) 0 = some (a 3) := H.r 2 0
  have r2_1 : xR s (a 2) 1 = some (a 4) := H.r 2 1
  simp [X_LT_fact, xGetA, t0, r0_4, xIs, t2, X_Facts_has_eq H, hx, xpT, xpL, xpI, xpR, xpA, xpJ, xpO, xpZ, xInt, xN]
theorem X_LT_fact_in (H : Sh s a n rc) {j : Nat} (hj : j < 20) (v : Int64) : X_LT_fact F s (a 0) (nI j) v = some (1, xT s, xL s, xI s, xR s, xUp (xA s) (a 4) j 1, xUp (xJ s) (a 3) j v, xO s, xZ s) := by
  have t0 : xT s (a 0) = 12 := H.t 0
  have r0_0 : xR s (a 0) 0 = some (a 1) := H.r 0 0
  have r0_2 : xR s (a 0) 2 = some (a 26) := H.r 0 2
  have r0_3 : xR s (a 0) 3 = some (a 34) := H.r 0 3
  have r0_4 : xR s (a 0) 4 = some (a 2) := H.r 0 4
  have r0_5 : xR s (a 0) 5 = some (a 5) := H.r 0 5
  have r0_6 : xR s (a 0) 6 = some (a 7) := H.r 0 6
  have r0_7 : xR s (a 0) 7 = some (a 12) := H.r 0 7
  have r0_8 : xR s (a 0) 8 = some (a 17) := H.r 0 8
  have r0_9 : xR s (a 0) 9 = some (a 19) := H.r 0 9
  have t2 : xT s (a 2) = 3 := H.t 2
  have r2_0 : xR s (a 2) 0 = some (a 3) := H.r 2 0
  have r2_1 : xR s (a 2) 1 = some (a 4) := H.r 2 1
  have h1 : ¬ (nI j < 0) := nI_pos (by omega)
  have h2 : ¬ ((20 : Int32) ≤ nI j) := nI_ge (b := 20) hj (by decide)
  have e1 : (1 : Int32) &&& 1 = 1 := rfl
  simp [X_LT_fact, xGetA, t0, r0_4, xIs, t2, X_Facts_has_eq H, h1, h2, X_Facts_put_in H hj, xpT, xpL, xpI, xpR, xpA, xpJ, xpO, xpZ, xInt, xN]
end FACTS
/-- the facts of both sides -/
def SimF (s : XS) (a : Nat → Nat) (m : MS) : Prop := ∀ j, j < 20 → xJ s (a 3) j = m.2.2 27 j ∧ xA s (a 4) j = m.2.1 28 j ∧ (xA s (a 4) j = 0 ∨ xA s (a 4) j = 1)
theorem N_Mo_fact_out {F : Nat} {m : MS} {x : Int32} (hx : x < 0 ∨ 20 ≤ x) (v : Int64) : N_Mo_fact F m x v = some (0, sPut m 0 0) := by
  by_cases h1 : x < 0
  · simp [N_Mo_fact, h1]
  · have h2 : ¬ (x ≤ 19) := by
      rcases hx with h | h
      · exact absurd h h1
      · intro q
        have := Int32.le_iff_toInt_le.mp h
        have := Int32.le_iff_toInt_le.mp q
        simp at *
        omega
    simp [N_Mo_fact, h1, h2]
theorem N_Mo_fact_in {F : Nat} {m : MS} {j : Nat} (hj : j < 20) (v : Int64) : N_Mo_fact F m (nI j) v = some (1, sStI (sStL (sPut m 0 0) 27 j v) 28 j 1) := by
  have h1 : ¬ (nI j < 0) := nI_pos (by omega)
  have h2 : nI j ≤ 19 := nI_le (b := 19) (by omega) (by decide)
  have hc : (nI j).toNatClampNeg = j := nI_clamp (by omega)
  have h3 : ¬ 20 ≤ j := by omega
  simp [N_Mo_fact, h1, h2, hc, h3]
/-! the facts' calls, together -/
theorem SimF.put {s : XS} {a : Nat → Nat} {n : Nat} {rc : Nat → Nat} {m : MS} (H : Sh s a n rc) (h : SimF s a m) {j : Nat} (hj : j < 20) (v : Int64) (b : Int32) (hb : b = 0 ∨ b = 1) : SimF (xT s, xL s, xI s, xR s, xUp (xA s) (a 4) j b, xUp (xJ s) (a 3) j v, xO s, xZ s) a (sStI (sStL m 27 j v) 28 j b) := by
  intro i hi
  obtain ⟨h1, h2, h3⟩ := h i hi
  simp only [xpT, xpL, xpI, xpR, xpA, xpJ, xpO, xpZ, xInt, xN, sStI, sStL, xUp]
  by_cases e : i = j
  · simp [e, vp_updL, upd, hb]
  · simp [e, vp_updL, upd, h1, h2]
    exact h2 ▸ h3
theorem SimF.code {s : XS} {a : Nat → Nat} {m : MS} (h : SimF s a m) (k : Nat) (v : Int32) : SimF s a (sPut m k v) := h
