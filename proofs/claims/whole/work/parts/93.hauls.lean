/-! HAULS -/
def SimH (s : XS) (a : Nat → Nat) (m : MS) (v : Nat → Nat) (B : Nat) : Prop := ∀ j, j < 80 → xJ s (a 20) j = lN (v j) ∧ m.2.2 38 j = lN (v j) ∧ v j ≤ B
theorem cmpL_lt {x y : Int64} : lg_cmp x y < 0 ↔ x < y := by
  unfold lg_cmp
  by_cases h1 : x > y
  · rw [if_pos h1]
    constructor
    · intro h; exact absurd h (by decide)
    · intro h; exact absurd h (Int64.lt_asymm h1)
  · rw [if_neg h1]
    by_cases h2 : x = y
    · rw [if_pos h2]
      constructor
      · intro h; exact absurd h (by decide)
      · intro h; rw [h2] at h; exact absurd h Int64.lt_irrefl
    · rw [if_neg h2]
      constructor
      · intro _
        rcases Int64.lt_or_lt_of_ne h2 with h | h
        · exact h
        · exact absurd h h1
      · intro _; decide
theorem cmpL_le {x y : Int64} : lg_cmp x y ≤ 0 ↔ x ≤ y := by
  unfold lg_cmp
  by_cases h1 : x > y
  · rw [if_pos h1]
    constructor
    · intro h; exact absurd h (by decide)
    · intro h; exact absurd h1 (Int64.not_lt.mpr h)
  · rw [if_neg h1]
    have h3 : x ≤ y := Int64.not_lt.mp h1
    by_cases h2 : x = y
    · rw [if_pos h2]; exact ⟨fun _ => h3, fun _ => by decide⟩
    · rw [if_neg h2]; exact ⟨fun _ => h3, fun _ => by decide⟩
theorem cmpL_eq {x y : Int64} : lg_cmp x y = 0 ↔ x = y := by
  unfold lg_cmp
  by_cases h1 : x > y
  · rw [if_pos h1]
    constructor
    · intro h; exact absurd h (by decide)
    · intro h; rw [h] at h1; exact absurd h1 Int64.lt_irrefl
  · rw [if_neg h1]
    by_cases h2 : x = y
    · rw [if_pos h2]; exact ⟨fun _ => h2, fun _ => rfl⟩
    · rw [if_neg h2]
      constructor
      · intro h; exact absurd h (by decide)
      · intro h; exact absurd h h2
theorem gramsOk {x : Int64} (h1 : ¬ x < 1) (h2 : x ≤ 1000000000) : ∃ g : Nat, 1 ≤ g ∧ g ≤ 1000000000 ∧ x = lN g := by
  have h3 : ¬ x < 0 := fun h => h1 (Int64.lt_trans h (by decide))
  obtain ⟨g, hg, rfl⟩ := pk_lOf h3
  have e1 : (1 : Int64) = lN 1 := rfl
  have e2 : (1000000000 : Int64) = lN 1000000000 := rfl
  rw [e1, pk_lLT hg (by decide)] at h1
  rw [e2, pk_lLE hg (by decide)] at h2
  exact ⟨g, by omega, h2, rfl⟩
section HAULS
variable {F : Nat} {s : XS} {a : Nat → Nat} {n : Nat} {rc : Nat → Nat} {m : MS}
theorem X_Hauls_has_eq (x y : Int32) : X_Hauls_has F s x y = some (if x < 0 ∨ 10 ≤ x ∨ y < 0 ∨ 8 ≤ y then 0 else 1, s) := by
  by_cases h1 : x < 0
  · simp [X_Hauls_has, h1]
  · by_cases h2 : (10 : Int32) ≤ x
    · simp [X_Hauls_has, h1, h2]
    · by_cases h3 : y < 0
      · simp [X_Hauls_has, h1, h2, h3]
      · by_cases h4 : (8 : Int32) ≤ y
        · simp [X_Hauls_has, h1, h2, h3, h4]
        · simp [X_Hauls_has, h1, h2, h3, h4]
theorem placeX (p k : Nat) : nI p * 8 + nI k = nI (8 * p + k) := by
  have : (8 : Int32) = nI 8 := rfl
  rw [this, pk_mul, nI_add, Nat.mul_comm]
theorem placeN (p k : Nat) : 8 * nI p + nI k = nI (8 * p + k) := by
  have : (8 : Int32) = nI 8 := rfl
  rw [this, pk_mul, nI_add]
theorem haul_both (H : Sh s a n rc) {v : Nat → Nat} {B : Nat} (h : SimH s a m v B) (x y : Int32) (g : Int64) : ∃ r s2 m2 v2, X_LT_haul F s (a 0) x y g = some (r, s2) ∧ N_Mo_haul F m x y g = some (r, m2) ∧ SimH s2 a m2 v2 (B + 1000000000) ∧ (∃ j, s2 = (xT s, xL s, xI s, xR s, xA s, j, xO s, xZ s) ∧ ∀ b, b ≠ a 20 → j b = xJ s b) ∧ ∃ j, m2 = (upd m.1 0 0, m.2.1, j) ∧ ∀ k, k ≠ 38 → j k = m.2.2 k := by
  have t0 : xT s (a 0) = 12 := H.t 0
  have r0_0 : xR s (a 0) 0 = some (a 1) := H.r 0 0
  have r0_2 : xR s (a 0) 2 = some (a 26) := H.r 0 2
  have r0_3 : xR s (a 0) 3 = some (a 34) := H.r 0 3
  have r0_4 : xR s (a 0) 4 = some (a 2) := H.r 0 4
  have r0_5 : xR s (a 0) 5 = some (a 5) := H.r 0 5
  have r0_6 : xR s (a 0) 6 = some (a 7) := H.r 0 6
  have r0_7 : xR s (a 0) 7 = some (a 12) := H.r 0 7
  have r0_8 : xR s (a 0) 8 = some (a 17) := H.r 0 8
  have r0_9 : xR s (a 0) 9 = some (a 19) := H.r 0 9
  have t19 : xT s (a 19) = 5 := H.t 19
  have r19_0 : xR s (a 19) 0 = some (a 20) := H.r 19 0
  have t20 : xT s (a 20) = 23 := H.t 20
  have l20 : xL s (a 20) = 80 := H.l 20
  have wk : SimH s a (sPut m 0 0) v (B + 1000000000) := fun j hj => ⟨(h j hj).1, (h j hj).2.1, Nat.le_trans (h j hj).2.2 (by omega)⟩
  have out : X_LT_haul F s (a 0) x y g = some (0, s) → N_Mo_haul F m x y g = some (0, sPut m 0 0) → ∃ r s2 m2 v2, X_LT_haul F s (a 0) x y g = some (r, s2) ∧ N_Mo_haul F m x y g = some (r, m2) ∧ SimH s2 a m2 v2 (B + 1000000000) ∧ (∃ j, s2 = (xT s, xL s, xI s, xR s, xA s, j, xO s, xZ s) ∧ ∀ b, b ≠ a 20 → j b = xJ s b) ∧ ∃ j, m2 = (upd m.1 0 0, m.2.1, j) ∧ ∀ k, k ≠ 38 → j k = m.2.2 k := fun e1 e2 => ⟨0, s, _, v, e1, e2, wk, ⟨_, rfl, fun _ _ => rfl⟩, ⟨_, rfl, fun _ _ => rfl⟩⟩
  rcases pk_ix x (n := 10) (by decide) with h1 | h1 | ⟨p, hp, rfl⟩
  · refine out ?_ ?_
    · simp [X_LT_haul, X_Hauls_add, X_Hauls_has_eq, xGetA, t0, r0_9, xIs, t19, h1, xpT, xpL, xpI, xpR, xpA, xpJ, xpO, xpZ, xInt, xN, hZ]
    · simp [N_Mo_haul, h1]
  · have h2 : (10 : Int32) ≤ x := h1
    have h3 : (9 : Int32) < x := by
      have := Int32.le_iff_toInt_le.mp h2
      apply Int32.lt_iff_toInt_lt.mpr
      simp at *
      omega
    refine out ?_ ?_
    · simp [X_LT_haul, X_Hauls_add, X_Hauls_has_eq, xGetA, t0, r0_9, xIs, t19, h2, xpT, xpL, xpI, xpR, xpA, xpJ, xpO, xpZ, xInt, xN, hZ]
    · simp [N_Mo_haul, h3]
  · have p1 : ¬ nI p < 0 := nI_pos (by omega)
    have p2 : ¬ (10 : Int32) ≤ nI p := nI_ge (b := 10) hp (by decide)
    have p3 : ¬ (9 : Int32) < nI p := nI_nlt (a := 9) (by omega) (by omega)
    rcases pk_ix y (n := 8) (by decide) with h1 | h1 | ⟨k, hk, rfl⟩
    · refine out ?_ ?_
      · simp [X_LT_haul, X_Hauls_add, X_Hauls_has_eq, xGetA, t0, r0_9, xIs, t19, h1, xpT, xpL, xpI, xpR, xpA, xpJ, xpO, xpZ, xInt, xN, hZ]
      · simp [N_Mo_haul, p1, p3, h1]
    · have h2 : (8 : Int32) ≤ y := h1
      have h3 : (7 : Int32) < y := by
        have := Int32.le_iff_toInt_le.mp h2
        apply Int32.lt_iff_toInt_lt.mpr
        simp at *
        omega
      refine out ?_ ?_
      · simp [X_LT_haul, X_Hauls_add, X_Hauls_has_eq, xGetA, t0, r0_9, xIs, t19, h2, xpT, xpL, xpI, xpR, xpA, xpJ, xpO, xpZ, xInt, xN, hZ]
      · simp [N_Mo_haul, p1, p3, h3]
    · have k1 : ¬ nI k < 0 := nI_pos (by omega)
      have k2 : ¬ (8 : Int32) ≤ nI k := nI_ge (b := 8) hk (by decide)
      have k3 : ¬ (7 : Int32) < nI k := nI_nlt (a := 7) (by omega) (by omega)
      by_cases g1 : g < 1
      · refine out ?_ ?_
        · simp [X_LT_haul, X_Hauls_add, X_Hauls_has_eq, xGetA, t0, r0_9, xIs, t19, p1, p2, k1, k2, cmpL_lt, g1, xpT, xpL, xpI, xpR, xpA, xpJ, xpO, xpZ, xInt, xN, hZ]
        · simp [N_Mo_haul, p1, p3, k1, k3, cmpL_lt, g1]
      · by_cases g2 : g ≤ 1000000000
        · obtain ⟨w, w1, w2, rfl⟩ := gramsOk g1 g2
          have c1 : ¬ nI (8 * p + k) < 0 := nI_pos (by omega)
          have c2 : ¬ nI 80 ≤ nI (8 * p + k) := nI_ge (by omega) (by decide)
          have e80 : Int32.ofNat 80 = nI 80 := rfl
          have cc : (nI (8 * p + k)).toNatClampNeg = 8 * p + k := nI_clamp (by omega)
          have c3 : ¬ 80 ≤ 8 * p + k := by omega
          have e1 := (h (8 * p + k) (by omega))
          refine ⟨1, _, _, va_up v (8 * p + k) (v (8 * p + k) + w), ?_, ?_, ?_, ⟨xUp (xJ s) (a 20) (8 * p + k) (xJ s (a 20) (8 * p + k) + lN w), rfl, fun b hb => ?_⟩, ⟨(fun q => if q = 38 then vp_updL (m.2.2 38) (8 * p + k) (m.2.2 38 (8 * p + k) + lN w) else m.2.2 q), rfl, fun q hq => ?_⟩⟩
          · simp [X_LT_haul, X_Hauls_add, X_Hauls_has_eq, xGetA, t0, r0_9, xIs, t19, p1, p2, k1, k2, cmpL_lt, cmpL_le, g1, g2, xpT, xpL, xpI, xpR, xpA, xpJ, xpO, xpZ, xInt, xN, hZ, placeX, c1, r19_0, xLen, t20, l20, e80, c2, xLdL, cc, c3, xStL]
          · simp [N_Mo_haul, p1, p3, k1, k3, cmpL_lt, cmpL_le, g1, g2, placeN, c1, cc, c3]
            simp [sStL, sPut]
          · intro j hj
            simp only [xpT, xpL, xpI, xpR, xpA, xpJ, xpO, xpZ, xInt, xN]
            by_cases hjk : j = 8 * p + k
            · subst hjk
              rw [va_up_self]
              refine ⟨by simp [xUp, e1.1, lN_add], ?_, by have := e1.2.2; omega⟩
              simp [vp_updL, e1.2.1, lN_add]
            · rw [va_up_ne _ _ hjk]
              refine ⟨by simp [xUp, hjk]; exact (h j hj).1, ?_, Nat.le_trans (h j hj).2.2 (by omega)⟩
              simp [vp_updL, hjk, (h j hj).2.1]
          · exact xUp_ne _ _ _ hb
          · simp [hq]
        · refine out ?_ ?_
          · simp [X_LT_haul, X_Hauls_add, X_Hauls_has_eq, xGetA, t0, r0_9, xIs, t19, p1, p2, k1, k2, cmpL_lt, cmpL_le, g1, g2, xpT, xpL, xpI, xpR, xpA, xpJ, xpO, xpZ, xInt, xN, hZ]
          · simp [N_Mo_haul, p1, p3, k1, k3, cmpL_lt, cmpL_le, g1, g2]
end HAULS
