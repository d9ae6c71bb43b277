section STEPY
variable {F : Nat} {s : XS} {a : Nat → Nat} {n : Nat} {rc : Nat → Nat} {f : Nat → Nat} {r : Nat} {E : Ed} {top : Nat} {p : Nat → Int64} {m : MS} {i : Nat}
theorem nIk0 : nI 0 = 0 := rfl
theorem nIk1 : nI 1 = 1 := rfl
theorem nIk2 : nI 2 = 2 := rfl
theorem nIk3 : nI 3 = 3 := rfl
theorem nIk4 : nI 4 = 4 := rfl
theorem nIk5 : nI 5 = 5 := rfl
theorem nIk6 : nI 6 = 6 := rfl
theorem nIk7 : nI 7 = 7 := rfl
theorem nIk8 : nI 8 = 8 := rfl
theorem nIk9 : nI 9 = 9 := rfl
theorem nIk10 : nI 10 = 10 := rfl
theorem nIk11 : nI 11 = 11 := rfl
theorem nIk12 : nI 12 = 12 := rfl
theorem nI_k {j k : Nat} (hj : j < 64) (hk : k < 64) : nI j = nI k ↔ j = k := nI_eq (by omega) (by omega)
theorem st_combine (H : Sh s a n rc) (R : RS s a (top + 2) p) (ht : top + 2 ≤ 64) (c3 : xI s (a 5) 3 = -1) (c4 : xI s (a 5) 4 = -1) {k : Nat} (k1 : 4 ≤ k) (k2 : k < 9) : StR s a (X_Reckoner_combine F s (a 5) (nI k)) (if 7 ≤ k ∧ p (top + 1) = 0 then (2, 1, -1, top + 2, p) else (0, -1, -1, top + 1, vp_updL p top (cb k (p top) (p (top + 1))))) := by
  obtain ⟨s1, s2, e1, e2, ht1, f2, g3, g4, R2⟩ := st_two (F := F) H R ht c3 c4
  have t5 : xT s (a 5) = 6 := H.t 5
  have t51 : xT s1 (a 5) = 6 := by rw [ht1]; exact t5
  have H2 := H.frE f2
  have t52 : xT s2 (a 5) = 6 := H2.t 5
  have q7 : (nI k = 7) ↔ k = 7 := nI_k (k := 7) (by omega) (by decide)
  have q8 : (nI k = 8) ↔ k = 8 := nI_k (k := 8) (by omega) (by decide)
  have q4 : (nI k = 4) ↔ k = 4 := nI_k (k := 4) (by omega) (by decide)
  have q5 : (nI k = 5) ↔ k = 5 := nI_k (k := 5) (by omega) (by decide)
  have q6 : (nI k = 6) ↔ k = 6 := nI_k (k := 6) (by omega) (by decide)
  obtain ⟨s3, e3, f3, h3, h4, R3⟩ := st_number (F := F) H2 R2 (by omega) g3 g4 (cb k (p top) (p (top + 1)))
  have e36 : ¬ (7 ≤ k ∧ p (top + 1) = 0) → X_Reckoner_combine_36 F s2 (a 5) (nI k) (p (top + 1)) (p top) = some (1, s3) := by
    intro hn
    have ec : X_Reckoner_combined F s2 (nI k) (p top) (p (top + 1)) = some (cb k (p top) (p (top + 1)), s2) := by
      unfold X_Reckoner_combined cb
      by_cases h4 : k = 4
      · subst h4; simp [nIk4]
      · by_cases h5 : k = 5
        · subst h5; simp [nIk5]
        · by_cases h6 : k = 6
          · subst h6; simp [nIk6]
          · have hne : ¬ p (top + 1) = 0 := fun e => hn ⟨by omega, e⟩
            have hcm : ¬ lg_cmp (p (top + 1)) 0 = 0 := fun e => hne (cmpL_eq.mp e)
            by_cases h7 : k = 7
            · subst h7; simp [nIk7, hcm, hne]
            · simp [q4, q5, q6, q7, h4, h5, h6, h7, hcm, hne]
    simp [X_Reckoner_combine_36, ec, xIs, t52, e3]
  by_cases hz : 7 ≤ k ∧ p (top + 1) = 0
  · rw [if_pos hz]
    refine ⟨(xT s2, xL s2, xUp (xI s2) (a 5) 3 1, xR s2, xA s2, xJ s2, xO s2, xZ s2), ?_, f2.trans (FrE.up s2 _ _ (fun c hc => xUp_ne _ _ _ hc) (fun c hc => rfl)), by simp [xUp, xpT, xpL, xpI, xpR, xpA, xpJ, xpO, xpZ, xInt, xN], by simp [xUp, g4, xpT, xpL, xpI, xpR, xpA, xpJ, xpO, xpZ, xInt, xN], fun h => by simp at h⟩
    have e23 : X_Reckoner_combine_23 F s2 (a 5) (nI k) (p (top + 1)) (p top) = some (0, xT s2, xL s2, xUp (xI s2) (a 5) 3 1, xR s2, xA s2, xJ s2, xO s2, xZ s2) := by
      have : lg_cmp (p (top + 1)) 0 = 0 := cmpL_eq.mpr hz.2
      simp [X_Reckoner_combine_23, this, xPutI, t52, xpT, xpL, xpI, xpR, xpA, xpJ, xpO, xpZ, xInt, xN]
    by_cases h7 : k = 7
    · subst h7
      rw [nIk7] at e23 ⊢
      simp [X_Reckoner_combine, xIs, t5, e1, t51, e2, e23]
    · have h8 : k = 8 := by omega
      subst h8
      rw [nIk8] at e23 ⊢
      simp [X_Reckoner_combine, xIs, t5, e1, t51, e2, e23]
  · rw [if_neg hz]
    refine ⟨s3, ?_, f2.trans f3, h3, h4, fun _ => R3⟩
    have e23 : X_Reckoner_combine_36 F s2 (a 5) (nI k) (p (top + 1)) (p top) = some (1, s3) := e36 hz
    by_cases h7 : k = 7 ∨ k = 8
    · have hne : ¬ p (top + 1) = 0 := fun e => hz ⟨by omega, e⟩
      have hcm : ¬ lg_cmp (p (top + 1)) 0 = 0 := fun e => hne (cmpL_eq.mp e)
      rcases h7 with h7 | h7
      · subst h7
        rw [nIk7] at e23 ⊢
        simp [X_Reckoner_combine, xIs, t5, e1, t51, e2, X_Reckoner_combine_23, hcm, e23]
      · subst h7
        rw [nIk8] at e23 ⊢
        simp [X_Reckoner_combine, xIs, t5, e1, t51, e2, X_Reckoner_combine_23, hcm, e23]
    · have h7' : ¬ k = 7 := fun e => h7 (Or.inl e)
      have h8' : ¬ k = 8 := fun e => h7 (Or.inr e)
      simp [X_Reckoner_combine, xIs, t5, e1, t51, e2, q7, q8, h7', h8', e23]
theorem st_related (H : Sh s a n rc) (R : RS s a (top + 2) p) (ht : top + 2 ≤ 64) (c3 : xI s (a 5) 3 = -1) (c4 : xI s (a 5) 4 = -1) {k : Nat} (k1 : 9 ≤ k) (k2 : k ≤ 12) : StR s a (X_Reckoner_related F s (a 5) (nI k)) (if rl k (p top) (p (top + 1)) then (0, -1, -1, top, p) else (1, -1, -1, top + 2, p)) := by
  obtain ⟨s1, s2, e1, e2, ht1, f2, g3, g4, R2⟩ := st_two (F := F) H R ht c3 c4
  have t5 : xT s (a 5) = 6 := H.t 5
  have t51 : xT s1 (a 5) = 6 := by rw [ht1]; exact t5
  have q9 : (nI k = 9) ↔ k = 9 := nI_k (k := 9) (by omega) (by decide)
  have q10 : (nI k = 10) ↔ k = 10 := nI_k (k := 10) (by omega) (by decide)
  have q11 : (nI k = 11) ↔ k = 11 := nI_k (k := 11) (by omega) (by decide)
  have er : X_Reckoner_related F s (a 5) (nI k) = some (if rl k (p top) (p (top + 1)) then 1 else 0, s2) := by
    have hlt : (0 ≤ lg_cmp (p top) (p (top + 1))) ↔ ¬ p top < p (top + 1) := by
      rw [← cmpL_lt]; exact Int32.not_lt.symm
    have hle : (0 < lg_cmp (p top) (p (top + 1))) ↔ ¬ p top ≤ p (top + 1) := by
      rw [← cmpL_le]; exact Int32.not_le.symm
    by_cases h9 : k = 9
    · subst h9
      by_cases c : p top < p (top + 1)
      · simp [X_Reckoner_related, xIs, t5, e1, t51, e2, nIk9, hlt, rl, c]
      · simp [X_Reckoner_related, xIs, t5, e1, t51, e2, nIk9, hlt, rl, c]
    · by_cases h10 : k = 10
      · subst h10
        by_cases c : p top ≤ p (top + 1)
        · simp [X_Reckoner_related, xIs, t5, e1, t51, e2, nIk10, hle, rl, c]
        · simp [X_Reckoner_related, xIs, t5, e1, t51, e2, nIk10, hle, rl, c]
      · by_cases h11 : k = 11
        · subst h11
          by_cases c : p top = p (top + 1)
          · simp [X_Reckoner_related, xIs, t5, e1, t51, e2, nIk11, cmpL_eq, rl, c]
          · simp [X_Reckoner_related, xIs, t5, e1, t51, e2, nIk11, cmpL_eq, rl, c]
        · by_cases c : p top = p (top + 1)
          · simp [X_Reckoner_related, xIs, t5, e1, t51, e2, q9, q10, q11, h9, h10, h11, cmpL_eq, rl, c]
          · simp [X_Reckoner_related, xIs, t5, e1, t51, e2, q9, q10, q11, h9, h10, h11, cmpL_eq, rl, c]
  cases hr : rl k (p top) (p (top + 1)) with
  | true => rw [hr] at er; exact ⟨s2, er, f2, g3, g4, fun _ => R2⟩
  | false => rw [hr] at er; exact ⟨s2, er, f2, g3, g4, fun h => by simp at h⟩
theorem lN_cl (j : Nat) (hj : j < 10) : (lN j).toNatClampNeg = j := by
  have : ∀ j, j < 10 → (lN j).toNatClampNeg = j := by decide
  exact this j hj
theorem st_place (H : Sh s a n rc) (K : ESh s f r) (hr : r = E.1 4) (hc : CE s f E) (hw : WE E) (R : RS s a (top + 1) p) (ht : top + 1 ≤ 64) (c3 : xI s (a 5) 3 = -1) (c4 : xI s (a 5) 4 = -1) {t : Nat} (k1 : t < E.1 3) : StR s a (X_Reckoner_pushPlace F s (a 5) (f 9) (nI t)) (if p top < 0 ∨ (nI (E.2 3 t)).toInt64 ≤ p top then (2, 2, -1, top + 1, p) else (0, -1, -1, top + 1, vp_updL p top (nI (E.2 4 (10 * t + (p top).toNatClampNeg))).toInt64)) := by
  have e1 := X_pop_eq (F := F) H (top := top) R.1 (by omega)
  rw [R.2 _ (by omega)] at e1
  obtain ⟨s1, hs1⟩ : ∃ y : XS, y = (xT s, xL s, xUp (xI s) (a 5) 2 (nI top), xR s, xA s, xJ s, xO s, xZ s) := ⟨_, rfl⟩
  rw [← hs1] at e1
  have f1 : FrE a s s1 := by rw [hs1]; exact FrE.up s _ _ (fun c hc => xUp_ne _ _ _ hc) (fun c hc => rfl)
  have H1 := H.frE f1
  have K1 := K.frE f1
  have C1 := hc.frE H K hr f1
  have i1 : xI s1 (a 5) 2 = nI top := by rw [hs1]; simp [xUp, xpT, xpL, xpI, xpR, xpA, xpJ, xpO, xpZ, xInt, xN]
  have g3 : xI s1 (a 5) 3 = -1 := by rw [hs1]; simp [xUp, c3, xpT, xpL, xpI, xpR, xpA, xpJ, xpO, xpZ, xInt, xN]
  have g4 : xI s1 (a 5) 4 = -1 := by rw [hs1]; simp [xUp, c4, xpT, xpL, xpI, xpR, xpA, xpJ, xpO, xpZ, xInt, xN]
  have j1 : xJ s1 = xJ s := by rw [hs1]
  have R1 : RS s1 a top p := ⟨i1, fun j hj => by rw [j1]; exact R.2 j (by omega)⟩
  have t5 : xT s (a 5) = 6 := H.t 5
  have r5_0 : xR s (a 5) 0 = some (a 2) := H.r 5 0
  have r5_1 : xR s (a 5) 1 = some (a 6) := H.r 5 1
  have t51 : xT s1 (a 5) = 6 := H1.t 5
  have et9 : xT s1 (f 9) = 9 := K1.t 9
  have er9_0 : xR s1 (f 9) 0 = some (f 10) := K1.r 9 0
  have er9_1 : xR s1 (f 9) 1 = some (f 11) := K1.r 9 1
  have et10 : xT s1 (f 10) = 20 := K1.t 10
  have el10 : xL s1 (f 10) = 80 := K1.l 10
  have et11 : xT s1 (f 11) = 20 := K1.t 11
  have el11 : xL s1 (f 11) = 8 := K1.l 11
  obtain ⟨-, -, ⟨cT, cZ⟩, -⟩ := C1
  obtain ⟨w1, w2, w3, w4, w5, w6, w7⟩ := hw
  obtain ⟨z1, z2⟩ := w6 t k1
  obtain ⟨y1, y2⟩ := cZ t k1
  by_cases hx : p top < 0 ∨ (nI (E.2 3 t)).toInt64 ≤ p top
  · rw [if_pos hx]
    have en := X_numberAt_out (F := F) et9 er9_0 er9_1 et11 el11 cT k1 w3 y1 hx
    refine ⟨(xT s1, xL s1, xUp (xI s1) (a 5) 3 2, xR s1, xA s1, xJ s1, xO s1, xZ s1), ?_, f1.trans (FrE.up s1 _ _ (fun c hc => xUp_ne _ _ _ hc) (fun c hc => rfl)), by simp [xUp, xpT, xpL, xpI, xpR, xpA, xpJ, xpO, xpZ, xInt, xN], by simp [xUp, g4, xpT, xpL, xpI, xpR, xpA, xpJ, xpO, xpZ, xInt, xN], fun h => by simp at h⟩
    simp [X_Reckoner_pushPlace, xIs, t5, e1, et9, en, xPutI, t51, xpT, xpL, xpI, xpR, xpA, xpJ, xpO, xpZ, xInt, xN]
  · rw [if_neg hx]
    rcases lN_cases (p top) z1 with h | h | ⟨j, hj, ej⟩
    · exact absurd (Or.inl h) hx
    · exact absurd (Or.inr h) hx
    · have en := X_numberAt_in (F := F) et9 er9_0 er9_1 et10 el10 et11 el11 cT k1 w3 y1 z1 hj
      have ecl : (p top).toNatClampNeg = j := by rw [ej]; exact lN_cl j (by omega)
      rw [ecl]
      rw [y2 j hj] at en
      have hv := z2 j hj
      obtain ⟨s3, e3, f3, h3, h4, R3⟩ := st_number (F := F) H1 R1 (by omega) g3 g4 (nI (E.2 4 (10 * t + j))).toInt64
      refine ⟨s3, ?_, f1.trans f3, h3, h4, fun _ => R3⟩
      have hm := nI_ne_m1 (j := E.2 4 (10 * t + j)) (by omega)
      rw [← ej] at en
      simp [X_Reckoner_pushPlace, xIs, t5, e1, et9, en, t51, hm, e3]
theorem st_fact (H : Sh s a n rc) (hf : SimF s a m) (R : RS s a top p) (ht : top + 1 ≤ 64) (c3 : xI s (a 5) 3 = -1) (c4 : xI s (a 5) 4 = -1) {t : Nat} (k1 : t < 20) : StR s a (X_Reckoner_pushFact F s (a 5) (nI t)) (if m.2.1 28 t = 0 then (2, 3, nI t, top, p) else (0, -1, -1, top + 1, vp_updL p top (m.2.2 27 t))) := by
  have t2 : xT s (a 2) = 3 := H.t 2
  have r2_0 : xR s (a 2) 0 = some (a 3) := H.r 2 0
  have r2_1 : xR s (a 2) 1 = some (a 4) := H.r 2 1
  have t5 : xT s (a 5) = 6 := H.t 5
  have r5_0 : xR s (a 5) 0 = some (a 2) := H.r 5 0
  have r5_1 : xR s (a 5) 1 = some (a 6) := H.r 5 1
  obtain ⟨f1, f2, f3⟩ := hf t k1
  have e1 := X_Facts_isTold_eq (F := F) H k1
  have e2 := X_Facts_valueOf_eq (F := F) H k1
  rw [f2] at e1
  rw [f1] at e2
  by_cases hx : m.2.1 28 t = 0
  · rw [if_pos hx]
    rw [if_pos hx] at e1
    refine ⟨(xT s, xL s, xUp (xUp (xI s) (a 5) 3 3) (a 5) 4 (nI t), xR s, xA s, xJ s, xO s, xZ s), ?_, FrE.up s _ _ (fun c hc => by rw [xUp_ne _ _ _ hc, xUp_ne _ _ _ hc]) (fun c hc => rfl), by simp [xUp, xpT, xpL, xpI, xpR, xpA, xpJ, xpO, xpZ, xInt, xN], by simp [xUp, xpT, xpL, xpI, xpR, xpA, xpJ, xpO, xpZ, xInt, xN], fun h => by simp at h⟩
    simp [X_Reckoner_pushFact, xGetA, t5, r5_0, xIs, t2, e1, xPutI, xpT, xpL, xpI, xpR, xpA, xpJ, xpO, xpZ, xInt, xN]
  · rw [if_neg hx]
    rw [if_neg hx] at e1
    obtain ⟨s3, e3, f3, h3, h4, R3⟩ := st_number (F := F) H R (by omega) c3 c4 (m.2.2 27 t)
    refine ⟨s3, ?_, f3, h3, h4, fun _ => R3⟩
    simp [X_Reckoner_pushFact, xGetA, t5, r5_0, xIs, t2, e1, e2, e3, xpT, xpL, xpI, xpR, xpA, xpJ, xpO, xpZ, xInt, xN]
end STEPY
