/-! THE CALLS THAT LOOK -/
section CALLS
variable {F : Nat} {s : XS} {a : Nat → Nat} {m : MS} {n : Nat} {rc : Nat → Nat} {Es : Nat → Ed} {nt : Nat} {v : Nat → Nat} {B : Nat}
theorem frG_R (b : Nat) {s2 : XS} (g : FrG s s2 (lo a b) (la a b) [a 6]) : FrR a s s2 [5, b] [b + 1, b + 2, b + 3, b + 4] [6] := g
theorem la2_m {m2 : MS} (h1 : m2.2.2 27 = m.2.2 27) (h2 : m2.2.1 28 = m.2.1 28) (q : Option Nat) : la2 Es m2 q = la2 Es m q ∧ lf2 Es m2 q = lf2 Es m q := by
  cases q with
  | none => exact ⟨rfl, rfl⟩
  | some e => simp only [la2, lf2]; unfold fo; rw [h1, h2]; exact ⟨rfl, rfl⟩
theorem run_both (I : Inv s a m n rc Es nt v B) (hF : 400 < F) (day : Int32) : ∃ r s2 m2, X_LT_run F s (a 0) day = some (r, s2) ∧ N_Mo_run F m day = some (r, m2) ∧ Inv s2 a m2 n rc Es nt v B := by
  obtain ⟨H, h1, h2, h3, h4, h5, h6, h7⟩ := I
  have t0 : xT s (a 0) = 12 := H.t 0
  have r0_0 : xR s (a 0) 0 = some (a 1) := H.r 0 0
  have r0_2 : xR s (a 0) 2 = some (a 26) := H.r 0 2
  have r0_3 : xR s (a 0) 3 = some (a 34) := H.r 0 3
  have r0_4 : xR s (a 0) 4 = some (a 2) := H.r 0 4
  have r0_5 : xR s (a 0) 5 = some (a 5) := H.r 0 5
  have r0_6 : xR s (a 0) 6 = some (a 7) := H.r 0 6
  have r0_7 : xR s (a 0) 7 = some (a 12) := H.r 0 7
  have r0_8 : xR s (a 0) 8 = some (a 17) := H.r 0 8
  have r0_9 : xR s (a 0) 9 = some (a 19) := H.r 0 9
  obtain ⟨s2, e2, g2, A2⟩ := lookX (F := F) H h5 h2 (b := 7) (Or.inl rfl) hF day
  have en := h5.en H
  have fm1 : FrM m (sPut (sPut m 0 0) 29 (oI (eo Es day n))) [0, 29, 33, 34] [30, 31, 32] [35] := ((FrM.put m 0 0).mono (by simp) (by simp) (by simp)).trans ((FrM.put _ 29 _).mono (by simp) (by simp) (by simp))
  have en0 : EN (sPut m 0 0) n Es := ⟨en.1, en.2.1, en.2.2⟩
  have en1 : EN (sPut (sPut m 0 0) 29 (oI (eo Es day n))) n Es := ⟨en.1, en.2.1, en.2.2⟩
  have eE := editionOf_eq (F := F) en0 (by omega) day
  obtain ⟨m2, e3, g3, K3⟩ := answer_eq (F := F) en1 day 1 (Or.inr rfl) hF
  have hq := la2_m (Es := Es) (m := m) (m2 := sPut (sPut m 0 0) 29 (oI (eo Es day n))) rfl rfl (eo Es day n)
  rw [hq.1] at e3
  rw [hq.2] at K3
  have gm : FrM m m2 [0, 29, 33, 34] [30, 31, 32] [35] := fm1.trans (g3.m1.mono (by simp) (by simp) (by simp))
  have g := frG_R (a := a) 7 g2
  refine ⟨la2 Es m (eo Es day n), s2, m2, ?_, ?_, H.frR g, h1.fr H g gm (by decide), h2.fr H g gm (by decide), h3.fr H g gm (by decide), h4.fr H g gm (by decide), h5.fr H g gm (by decide), ?_, fun e he => (h7 e he).fr H he g gm (by decide)⟩
  · simp [X_LT_run, xGetA, t0, r0_6, xIs, e2, xpT, xpL, xpI, xpR, xpA, xpJ, xpO, xpZ, xInt, xN]
  · simp only [N_Mo_run, Option.bind_some, eE]
    have e29 : (sPut (sPut m 0 0) 29 (oI (eo Es day n))).1 29 = oI (eo Es day n) := by simp [sPut, upd]
    rw [e29, e3]
    rfl
  · refine ⟨eo Es day n, lf2 Es m (eo Es day n), ?_, fun e he => eo_lt he, A2, fun r hr => ?_⟩
    · rw [g3.1 29 (by decide) (by decide)]; simp [sPut, upd]
    · obtain ⟨k1, k2⟩ := K3 rfl r hr
      refine ⟨k1, k2, ?_⟩
      cases he : eo Es day n with
      | none => rw [he] at hr; simp [lc2] at hr
      | some e => rfl
theorem walk_both (I : Inv s a m n rc Es nt v B) (hF : 400 < F) (day : Int32) : ∃ r s2 m2, X_LT_walk F s (a 0) day = some (r, s2) ∧ N_Mo_walk F m day = some (r, m2) ∧ Inv s2 a m2 n rc Es nt v B := by
  obtain ⟨H, h1, h2, h3, h4, h5, h6, h7⟩ := I
  have t0 : xT s (a 0) = 12 := H.t 0
  have r0_0 : xR s (a 0) 0 = some (a 1) := H.r 0 0
  have r0_2 : xR s (a 0) 2 = some (a 26) := H.r 0 2
  have r0_3 : xR s (a 0) 3 = some (a 34) := H.r 0 3
  have r0_4 : xR s (a 0) 4 = some (a 2) := H.r 0 4
  have r0_5 : xR s (a 0) 5 = some (a 5) := H.r 0 5
  have r0_6 : xR s (a 0) 6 = some (a 7) := H.r 0 6
  have r0_7 : xR s (a 0) 7 = some (a 12) := H.r 0 7
  have r0_8 : xR s (a 0) 8 = some (a 17) := H.r 0 8
  have r0_9 : xR s (a 0) 9 = some (a 19) := H.r 0 9
  obtain ⟨s2, e2, g2, A2⟩ := lookX (F := F) H h5 h2 (b := 12) (Or.inr rfl) hF day
  have en := h5.en H
  have fm1 : FrM m (sPut m 0 0) [0, 33, 34] [] [35] := ((FrM.put m 0 0).mono (by simp) (by simp) (by simp))
  have en0 : EN (sPut m 0 0) n Es := ⟨en.1, en.2.1, en.2.2⟩
  have eE := editionOf_eq (F := F) en0 (by omega) day
  obtain ⟨m2, e3, g3, -⟩ := answer_eq (F := F) en0 day 0 (Or.inl rfl) hF
  have hq := la2_m (Es := Es) (m := m) (m2 := sPut m 0 0) rfl rfl (eo Es day n)
  rw [hq.1] at e3
  have gm : FrM m m2 [0, 33, 34] [] [35] := fm1.trans (g3.m0.mono (by simp) (by simp) (by simp))
  have g := frG_R (a := a) 12 g2
  refine ⟨la2 Es m (eo Es day n), s2, m2, ?_, ?_, H.frR g, h1.fr H g gm (by decide), h2.fr H g gm (by decide), h3.fr H g gm (by decide), h4.fr H g gm (by decide), h5.fr H g gm (by decide), h6.fr H g gm (by decide), fun e he => (h7 e he).fr H he g gm (by decide)⟩
  · simp [X_LT_walk, xGetA, t0, r0_7, xIs, e2, xpT, xpL, xpI, xpR, xpA, xpJ, xpO, xpZ, xInt, xN]
  · simp only [N_Mo_walk, Option.bind_some, eE, e3]
/-! what the latest run found -/
theorem ranRules_eq {q : Option Nat} (h29 : m.1 29 = oI q) (hq : ∀ e, q = some e → e < n) (h : EN m n Es) : N_Mo_ranRules F m = some (nI (lc2 Es q), m) := by
  have h6 := h.2.1
  cases q with
  | none => simp [N_Mo_ranRules, h29, oI, lc2, nIk0]
  | some e =>
    have he := hq e rfl
    have b1 : 0 ≤ nI e := nI_pos' (by omega)
    have b2 : ¬ (nI e < 0 ∨ 6 ≤ (nI e).toNatClampNeg) := nI_in (by omega) (by decide)
    have b3 : (nI e).toNatClampNeg = e := nI_clamp (by omega)
    have b4 := (h.2.2 e he).1.1.2.1
    unfold N_Mo_ranRules
    rw [show m.1 29 = nI e from h29, if_pos b1, if_neg b2, b3, b4]
    rfl
theorem lc2_le {q : Option Nat} (hq : ∀ e, q = some e → e < n) (h : EN m n Es) : lc2 Es q ≤ 12 := by
  cases q with
  | none => simp [lc2]
  | some e => exact (h.2.2 e (hq e rfl)).2.2.2.2.1
theorem withState_loop {q : Option Nat} {o : Nat → Int32} (h29 : m.1 29 = oI q) (hq : ∀ e, q = some e → e < n) (h : EN m n Es) (ho : ∀ r, r < lc2 Es q → m.2.1 30 r = o r) (x k : Int32) (hk : ¬ k < 0) : ∀ (d r z : Nat) (p : Int32), r + d = lc2 Es q → d < z → N_Mo_withState_5 F z m k x p (nI r) = some (rnk o x k d r p, m) := by
  have er := ranRules_eq (F := F) h29 hq h
  have hl := lc2_le hq h
  intro d
  induction d with
  | zero =>
    intro r z p hr hz
    obtain ⟨z, rfl⟩ : ∃ y, z = y + 1 := ⟨z - 1, by omega⟩
    have b1 : nI (lc2 Es q) ≤ nI r := nI_le (by omega) (by omega)
    simp [N_Mo_withState_5, BN_Mo_withState_5, er, b1, rnk]
  | succ d ih =>
    intro r z p hr hz
    obtain ⟨z, rfl⟩ : ∃ y, z = y + 1 := ⟨z - 1, by omega⟩
    have i1 := fun p => ih (r + 1) z p (by omega) (by omega)
    have b1 : ¬ nI (lc2 Es q) ≤ nI r := nI_ge (by omega) (by omega)
    have b0 : ¬ nI r < 0 := nI_pos (by omega)
    have b3 : (nI r).toNatClampNeg = r := nI_clamp (by omega)
    have b4 : ¬ 12 ≤ r := by omega
    have o1 := ho r (by omega)
    by_cases c1 : o r = x
    · by_cases c2 : p = k
      · simp [N_Mo_withState_5, BN_Mo_withState_5, er, b1, hk, b0, b3, b4, o1, rnk, c1, c2]
      · simp [N_Mo_withState_5, BN_Mo_withState_5, er, b1, hk, b0, b3, b4, o1, rnk, c1, c2, N_Mo_withState_40, nI_1, i1]
    · simp [N_Mo_withState_5, BN_Mo_withState_5, er, b1, hk, b0, b3, b4, o1, rnk, c1, N_Mo_withState_40, nI_1, i1]
theorem rnk_neg {o : Nat → Int32} {x k : Int32} (hk : k < 0) : ∀ (d r j : Nat), j + d < 2 ^ 31 → rnk o x k d r (nI j) = -1 := by
  intro d
  induction d with
  | zero => intro r j _; rfl
  | succ d ih =>
    intro r j hj
    simp only [rnk]
    have hne : ¬ nI j = k := fun e => by rw [← e] at hk; exact nI_pos (by omega) hk
    rw [if_neg hne, nI_1, ih (r + 1) (j + 1) (by omega), ih (r + 1) j (by omega)]
    simp
theorem rnk_rng {o : Nat → Int32} {x k : Int32} : ∀ (d r : Nat) (p : Int32), rnk o x k d r p = -1 ∨ ∃ t, r ≤ t ∧ t < r + d ∧ rnk o x k d r p = nI t ∧ o t = x := by
  intro d
  induction d with
  | zero => intro r p; exact Or.inl rfl
  | succ d ih =>
    intro r p
    simp only [rnk]
    by_cases c1 : o r = x
    · by_cases c2 : p = k
      · exact Or.inr ⟨r, by omega, by omega, by simp [c1, c2], c1⟩
      · rw [if_pos c1, if_neg c2]
        rcases ih (r + 1) (p + 1) with h | ⟨t, h1, h2, h3, h4⟩
        · exact Or.inl h
        · exact Or.inr ⟨t, by omega, by omega, h3, h4⟩
    · rw [if_neg c1]
      rcases ih (r + 1) p with h | ⟨t, h1, h2, h3, h4⟩
      · exact Or.inl h
      · exact Or.inr ⟨t, by omega, by omega, h3, h4⟩
theorem withState_eq {q : Option Nat} {o : Nat → Int32} (h29 : m.1 29 = oI q) (hq : ∀ e, q = some e → e < n) (h : EN m n Es) (ho : ∀ r, r < lc2 Es q → m.2.1 30 r = o r) (hF : 400 < F) (x k : Int32) : N_Mo_withState F m k x = some (rnk o x k (lc2 Es q) 0 0, m) := by
  have hl := lc2_le hq h
  by_cases hk : k < 0
  · have e := rnk_neg (o := o) (x := x) hk (lc2 Es q) 0 0 (by omega)
    rw [nIk0] at e
    rw [e]
    obtain ⟨z, rfl⟩ : ∃ y, F = y + 1 := ⟨F - 1, by omega⟩
    have er := ranRules_eq (F := z + 1) h29 hq h
    unfold N_Mo_withState
    show BN_Mo_withState_5 (z + 1) _ m k x 0 0 = _
    unfold BN_Mo_withState_5
    rw [er, Option.bind_some]
    simp [hk]
  · have := withState_loop (F := F) h29 hq h ho x k hk (lc2 Es q) 0 F 0 (by omega) (by omega)
    rw [nIk0] at this
    exact this
theorem i32_cases (x : Int32) : x < 0 ∨ x = 0 ∨ x = 1 ∨ x = 2 ∨ (2 < x) := by
  rcases pk_ix x (n := 3) (by decide) with h | h | ⟨j, hj, e⟩
  · exact Or.inl h
  · right; right; right; right
    have e3 : nI 3 = 3 := rfl
    rw [e3] at h
    rw [Int32.lt_iff_toInt_lt]
    rw [Int32.le_iff_toInt_le] at h
    have h2 : (2 : Int32).toInt = 2 := by decide
    have h3 : (3 : Int32).toInt = 3 := by decide
    omega
  · have : j = 0 ∨ j = 1 ∨ j = 2 := by omega
    rcases this with rfl | rfl | rfl
    · exact Or.inr (Or.inl e)
    · exact Or.inr (Or.inr (Or.inl e))
    · exact Or.inr (Or.inr (Or.inr (Or.inl e)))
theorem broken_both (I : Inv s a m n rc Es nt v B) (hF : 400 < F) (k what : Int32) : ∃ r m2, X_LT_broken F s (a 0) k what = some (r, s) ∧ N_Mo_broken F m k what = some (r, m2) ∧ Inv s a m2 n rc Es nt v B := by
  have I2 := I.code 0
  obtain ⟨H, h1, h2, h3, h4, h5, h6, h7⟩ := I2
  have t0 : xT s (a 0) = 12 := H.t 0
  have r0_0 : xR s (a 0) 0 = some (a 1) := H.r 0 0
  have r0_2 : xR s (a 0) 2 = some (a 26) := H.r 0 2
  have r0_3 : xR s (a 0) 3 = some (a 34) := H.r 0 3
  have r0_4 : xR s (a 0) 4 = some (a 2) := H.r 0 4
  have r0_5 : xR s (a 0) 5 = some (a 5) := H.r 0 5
  have r0_6 : xR s (a 0) 6 = some (a 7) := H.r 0 6
  have r0_7 : xR s (a 0) 7 = some (a 12) := H.r 0 7
  have r0_8 : xR s (a 0) 8 = some (a 17) := H.r 0 8
  have r0_9 : xR s (a 0) 9 = some (a 19) := H.r 0 9
  have en := h5.en H
  obtain ⟨q, o, q1, q2, A, q4⟩ := h6
  have W := H.fi (b := 7) (Or.inl rfl)
  have e1 := fi_rank (F := F) W A (by omega) 1 k
  have e2 := withState_eq (F := F) q1 q2 en (o := fun r => (o r).1) (fun r hr => (q4 r hr).1) hF 1 k
  have hl := lc2_le q2 en
  have h6' := en.2.1
  rcases rnk_rng (o := fun r => (o r).1) (x := 1) (k := k) (lc2 Es q) 0 0 with hr | ⟨t, ht1, ht2, ht3, ht4⟩
  · rw [hr] at e1 e2
    refine ⟨-1, sPut m 0 0, ?_, ?_, I.code 0⟩
    · have eo := (fi_out (F := F) W A (x := -1) (Or.inl (by decide))).2.2.2
      by_cases c0 : what = 0
      · simp [X_LT_broken, xGetA, t0, r0_6, xIs, W.1, e1, c0, xpT, xpL, xpI, xpR, xpA, xpJ, xpO, xpZ, xInt, xN]
      · by_cases c1 : what = 1
        · simp [X_LT_broken, xGetA, t0, r0_6, xIs, W.1, e1, c1, eo, xpT, xpL, xpI, xpR, xpA, xpJ, xpO, xpZ, xInt, xN]
        · simp [X_LT_broken, xGetA, t0, r0_6, xIs, W.1, e1, c0, c1, xpT, xpL, xpI, xpR, xpA, xpJ, xpO, xpZ, xInt, xN]
    · simp [N_Mo_broken, e2]
  · rw [ht3] at e1 e2
    have tl : t < lc2 Es q := by omega
    obtain ⟨e, rfl⟩ : ∃ e, q = some e := by
      cases q with
      | none => simp [lc2] at tl
      | some e => exact ⟨e, rfl⟩
    have hen := q2 e rfl
    have ei := (fi_in (F := F) W A tl).2.2.2
    rw [(q4 t tl).2.2] at ei
    have b0 : ¬ nI t < 0 := nI_pos (by omega)
    have e17 := ((en.2.2 e hen).1.2.2.2 t tl).1
    have q29 : (sPut m 0 0).1 29 = nI e := q1
    have c12 : nI (12 * e) + nI t = nI (12 * e + t) := nI_add _ _
    have c13 : ¬ nI (12 * e + t) < 0 := nI_pos (by omega)
    have c14 : (nI (12 * e + t)).toNatClampNeg = 12 * e + t := nI_clamp (by omega)
    have c15 : ¬ 72 ≤ 12 * e + t := by omega
    rcases i32_cases what with c | c | c | c | c
    · have n0 : ¬ what = 0 := fun q => by rw [q] at c; exact absurd c (by decide)
      have n1 : ¬ what = 1 := fun q => by rw [q] at c; exact absurd c (by decide)
      refine ⟨-1, sPut m 0 0, ?_, ?_, I.code 0⟩
      · simp [X_LT_broken, xGetA, t0, r0_6, xIs, W.1, e1, n0, n1, xpT, xpL, xpI, xpR, xpA, xpJ, xpO, xpZ, xInt, xN]
      · simp [N_Mo_broken, e2, b0, c]
    · refine ⟨nI t, sPut m 0 0, ?_, ?_, I.code 0⟩
      · simp [X_LT_broken, xGetA, t0, r0_6, xIs, W.1, e1, c, xpT, xpL, xpI, xpR, xpA, xpJ, xpO, xpZ, xInt, xN]
      · simp [N_Mo_broken, e2, b0, c]
    · refine ⟨nI ((Es e).2 5 t), sPut m 0 0, ?_, ?_, I.code 0⟩
      · simp [X_LT_broken, xGetA, t0, r0_6, xIs, W.1, e1, c, ei, lwd, xpT, xpL, xpI, xpR, xpA, xpJ, xpO, xpZ, xInt, xN]
      · simp [N_Mo_broken, e2, b0, c, q29, nI_12, c12, c13, c14, c15]
        exact e17
    · refine ⟨-1, sPut m 0 0, ?_, ?_, I.code 0⟩
      · simp [X_LT_broken, xGetA, t0, r0_6, xIs, W.1, e1, c, xpT, xpL, xpI, xpR, xpA, xpJ, xpO, xpZ, xInt, xN]
      · simp [N_Mo_broken, e2, b0, c]
    · have n0 : ¬ what = 0 := fun q => by rw [q] at c; exact absurd c (by decide)
      have n1 : ¬ what = 1 := fun q => by rw [q] at c; exact absurd c (by decide)
      have n2 : ¬ what < 0 := fun q => absurd (Int32.lt_trans c q) (by decide)
      have n3 : ¬ what ≤ 1 := fun q => absurd (Int32.lt_of_lt_of_le c q) (by decide)
      refine ⟨-1, sPut m 0 0, ?_, ?_, I.code 0⟩
      · simp [X_LT_broken, xGetA, t0, r0_6, xIs, W.1, e1, n0, n1, xpT, xpL, xpI, xpR, xpA, xpJ, xpO, xpZ, xInt, xN]
      · simp [N_Mo_broken, e2, b0, n2, n3]
theorem open_both (I : Inv s a m n rc Es nt v B) (hF : 400 < F) (k what : Int32) : ∃ r m2, X_LT_open F s (a 0) k what = some (r, s) ∧ N_Mo_open F m k what = some (r, m2) ∧ Inv s a m2 n rc Es nt v B := by
  have I2 := I.code 0
  obtain ⟨H, h1, h2, h3, h4, h5, h6, h7⟩ := I2
  have t0 : xT s (a 0) = 12 := H.t 0
  have r0_0 : xR s (a 0) 0 = some (a 1) := H.r 0 0
  have r0_2 : xR s (a 0) 2 = some (a 26) := H.r 0 2
  have r0_3 : xR s (a 0) 3 = some (a 34) := H.r 0 3
  have r0_4 : xR s (a 0) 4 = some (a 2) := H.r 0 4
  have r0_5 : xR s (a 0) 5 = some (a 5) := H.r 0 5
  have r0_6 : xR s (a 0) 6 = some (a 7) := H.r 0 6
  have r0_7 : xR s (a 0) 7 = some (a 12) := H.r 0 7
  have r0_8 : xR s (a 0) 8 = some (a 17) := H.r 0 8
  have r0_9 : xR s (a 0) 9 = some (a 19) := H.r 0 9
  have en := h5.en H
  obtain ⟨q, o, q1, q2, A, q4⟩ := h6
  have W := H.fi (b := 7) (Or.inl rfl)
  have e1 := fi_rank (F := F) W A (by omega) 2 k
  have e2 := withState_eq (F := F) q1 q2 en (o := fun r => (o r).1) (fun r hr => (q4 r hr).1) hF 2 k
  have hl := lc2_le q2 en
  rcases rnk_rng (o := fun r => (o r).1) (x := 2) (k := k) (lc2 Es q) 0 0 with hr | ⟨t, ht1, ht2, ht3, ht4⟩
  · rw [hr] at e1 e2
    refine ⟨-1, sPut m 0 0, ?_, ?_, I.code 0⟩
    · have eo := (fi_out (F := F) W A (x := -1) (Or.inl (by decide)))
      by_cases c0 : what = 0
      · simp [X_LT_open, xGetA, t0, r0_6, xIs, W.1, e1, c0, xpT, xpL, xpI, xpR, xpA, xpJ, xpO, xpZ, xInt, xN]
      · by_cases c1 : what = 1
        · simp [X_LT_open, xGetA, t0, r0_6, xIs, W.1, e1, c1, eo.2.1, xpT, xpL, xpI, xpR, xpA, xpJ, xpO, xpZ, xInt, xN]
        · by_cases c2 : what = 2
          · simp [X_LT_open, xGetA, t0, r0_6, xIs, W.1, e1, c2, eo.2.2.1, xpT, xpL, xpI, xpR, xpA, xpJ, xpO, xpZ, xInt, xN]
          · simp [X_LT_open, xGetA, t0, r0_6, xIs, W.1, e1, c0, c1, c2, xpT, xpL, xpI, xpR, xpA, xpJ, xpO, xpZ, xInt, xN]
    · simp [N_Mo_open, e2]
  · rw [ht3] at e1 e2
    have tl : t < lc2 Es q := by omega
    have ei := (fi_in (F := F) W A tl)
    obtain ⟨z1, z2⟩ := (q4 t tl).2.1 ht4
    have b0 : ¬ nI t < 0 := nI_pos (by omega)
    have b3 : (nI t).toNatClampNeg = t := nI_clamp (by omega)
    have b4 : ¬ 12 ≤ t := by omega
    rcases i32_cases what with c | c | c | c | c
    · have n0 : ¬ what = 0 := fun q => by rw [q] at c; exact absurd c (by decide)
      have n1 : ¬ what = 1 := fun q => by rw [q] at c; exact absurd c (by decide)
      have n2 : ¬ what = 2 := fun q => by rw [q] at c; exact absurd c (by decide)
      refine ⟨-1, sPut m 0 0, ?_, ?_, I.code 0⟩
      · simp [X_LT_open, xGetA, t0, r0_6, xIs, W.1, e1, n0, n1, n2, xpT, xpL, xpI, xpR, xpA, xpJ, xpO, xpZ, xInt, xN]
      · simp [N_Mo_open, e2, b0, c]
    · refine ⟨nI t, sPut m 0 0, ?_, ?_, I.code 0⟩
      · simp [X_LT_open, xGetA, t0, r0_6, xIs, W.1, e1, c, xpT, xpL, xpI, xpR, xpA, xpJ, xpO, xpZ, xInt, xN]
      · simp [N_Mo_open, e2, b0, c]
    · refine ⟨(o t).2.1, sPut m 0 0, ?_, ?_, I.code 0⟩
      · simp [X_LT_open, xGetA, t0, r0_6, xIs, W.1, e1, c, ei.2.1, xpT, xpL, xpI, xpR, xpA, xpJ, xpO, xpZ, xInt, xN]
      · simp [N_Mo_open, e2, b0, c, b3, b4]
        exact z1
    · refine ⟨(o t).2.2.1, sPut m 0 0, ?_, ?_, I.code 0⟩
      · simp [X_LT_open, xGetA, t0, r0_6, xIs, W.1, e1, c, ei.2.2.1, xpT, xpL, xpI, xpR, xpA, xpJ, xpO, xpZ, xInt, xN]
      · simp [N_Mo_open, e2, b0, c, b3, b4]
        exact z2
    · have n0 : ¬ what = 0 := fun q => by rw [q] at c; exact absurd c (by decide)
      have n1 : ¬ what = 1 := fun q => by rw [q] at c; exact absurd c (by decide)
      have n2' : ¬ what = 2 := fun q => by rw [q] at c; exact absurd c (by decide)
      have n2 : ¬ what < 0 := fun q => absurd (Int32.lt_trans c q) (by decide)
      have n3 : ¬ what ≤ 2 := fun q => absurd (Int32.lt_of_lt_of_le c q) (by decide)
      refine ⟨-1, sPut m 0 0, ?_, ?_, I.code 0⟩
      · simp [X_LT_open, xGetA, t0, r0_6, xIs, W.1, e1, n0, n1, n2', xpT, xpL, xpI, xpR, xpA, xpJ, xpO, xpZ, xInt, xN]
      · simp [N_Mo_open, e2, b0, n2, n3]
theorem explain_both (I : Inv s a m n rc Es nt v B) (x : Int32) : ∃ r m2, X_LT_explain F s (a 0) x = some (r, s) ∧ N_Mo_explain F m x = some (r, m2) ∧ Inv s a m2 n rc Es nt v B := by
  have I2 := I.code 0
  obtain ⟨H, h1, h2, h3, h4, h5, h6, h7⟩ := I2
  have t0 : xT s (a 0) = 12 := H.t 0
  have r0_0 : xR s (a 0) 0 = some (a 1) := H.r 0 0
  have r0_2 : xR s (a 0) 2 = some (a 26) := H.r 0 2
  have r0_3 : xR s (a 0) 3 = some (a 34) := H.r 0 3
  have r0_4 : xR s (a 0) 4 = some (a 2) := H.r 0 4
  have r0_5 : xR s (a 0) 5 = some (a 5) := H.r 0 5
  have r0_6 : xR s (a 0) 6 = some (a 7) := H.r 0 6
  have r0_7 : xR s (a 0) 7 = some (a 12) := H.r 0 7
  have r0_8 : xR s (a 0) 8 = some (a 17) := H.r 0 8
  have r0_9 : xR s (a 0) 9 = some (a 19) := H.r 0 9
  have en := h5.en H
  obtain ⟨q, o, q1, q2, A, q4⟩ := h6
  have W := H.fi (b := 7) (Or.inl rfl)
  have hl := lc2_le q2 en
  have er := ranRules_eq (F := F) q1 q2 en
  rcases pk_ix x (n := lc2 Es q) (by omega) with h9 | h9 | ⟨j, hj, rfl⟩
  · have eo := (fi_out (F := F) W A (x := x) (Or.inl h9)).1
    exact ⟨-1, sPut m 0 0, by simp [X_LT_explain, xGetA, t0, r0_6, xIs, W.1, eo, xpT, xpL, xpI, xpR, xpA, xpJ, xpO, xpZ, xInt, xN], by simp [N_Mo_explain, h9], I.code 0⟩
  · have eo := (fi_out (F := F) W A (x := x) (Or.inr h9)).1
    refine ⟨-1, sPut m 0 0, by simp [X_LT_explain, xGetA, t0, r0_6, xIs, W.1, eo, xpT, xpL, xpI, xpR, xpA, xpJ, xpO, xpZ, xInt, xN], ?_, I.code 0⟩
    by_cases h0 : x < 0
    · simp [N_Mo_explain, h0]
    · simp [N_Mo_explain, h0, er, Int32.not_lt.mpr h9]
  · have ei := (fi_in (F := F) W A hj).1
    have b0 : ¬ nI j < 0 := nI_pos (by omega)
    have b1 : nI j < nI (lc2 Es q) := nI_lt hj (by omega)
    have b3 : (nI j).toNatClampNeg = j := nI_clamp (by omega)
    have b4 : ¬ 12 ≤ j := by omega
    refine ⟨(o j).1, sPut m 0 0, by simp [X_LT_explain, xGetA, t0, r0_6, xIs, W.1, ei, xpT, xpL, xpI, xpR, xpA, xpJ, xpO, xpZ, xInt, xN], ?_, I.code 0⟩
    simp [N_Mo_explain, b0, er, b1, b3, b4]
    exact (q4 j hj).1
end CALLS
