section RULE
variable {F : Nat} {e W : Nat} {tok : Nat → Int32}
/-- a rule under way: the r-th -/
def BR (m : MS) (e : Nat) (E : Ed) (r : Nat) : Prop := E.1 4 = r + 1 ∧ m.2.1 13 e = nI r ∧ TbN m e E (E.1 3) ∧ RuN m e E r ∧ m.2.1 17 (12 * e + r) = nI (E.2 5 r) ∧ m.2.1 14 (12 * e + r) = nI (E.2 6 r) ∧ m.2.1 15 (12 * e + r) = if E.2 10 r = 0 then -1 else nI (E.2 8 r)
theorem BR.ext {m m2 : MS} {E E2 : Ed} {r : Nat} (h : BR m e E r) (x : Ext E E2) (f : FrY e m m2) : BR m2 e E2 r := by
  unfold BR TbN RuN at h ⊢
  rw [x.1 4 (by decide), x.1 3 (by decide), x.2.2.1 3 (by decide), x.2.2.1 4 (by decide), x.2.2.1 5 (by decide), x.2.2.1 6 (by decide), x.2.2.1 7 (by decide), x.2.2.1 8 (by decide), x.2.2.1 9 (by decide), x.2.2.1 10 (by decide), f.1.2.1 13 (by decide), f.1.2.1 11 (by decide), f.1.2.1 12 (by decide), f.1.2.1 14 (by decide), f.1.2.1 15 (by decide), f.1.2.1 16 (by decide), f.1.2.1 17 (by decide), f.1.2.1 18 (by decide)]
  exact h
theorem bgN_ext {E : Ed} {r : Nat} (h : E.1 4 = r + 1) : (bgN E).1 = E.1 ∧ (∀ j, j ≠ 8 → (bgN E).2 j = E.2 j) ∧ (bgN E).2 8 r = E.1 2 ∧ ∀ k, k ≠ r → (bgN E).2 8 k = E.2 8 k := by
  have e1 : E.1 4 - 1 = r := by omega
  refine ⟨rfl, fun j hj => ?_, ?_, fun k hk => ?_⟩
  · simp [bgN, setR, hj]
  · simp [bgN, setR, e1]
  · simp [bgN, setR, e1, hk]
theorem edR_ext {E : Ed} {r w : Nat} (h : E.1 4 = r + 1) : (edR E w).1 = E.1 ∧ (∀ j, j ≠ 7 → j ≠ 9 → (edR E w).2 j = E.2 j) ∧ (edR E w).2 7 r = w ∧ (edR E w).2 9 r = E.1 2 ∧ ∀ k, k ≠ r → (edR E w).2 7 k = E.2 7 k ∧ (edR E w).2 9 k = E.2 9 k := by
  have e1 : E.1 4 - 1 = r := by omega
  refine ⟨rfl, fun j hj hj2 => ?_, ?_, ?_, fun k hk => ?_⟩
  · simp [edR, setR, hj, hj2]
  · simp [edR, setR, e1]
  · simp [edR, setR, e1]
  · simp [edR, setR, e1, hk]
/-- a rule's end -/
theorem rule_end (hF : 900 < F) {m : MS} {E1 E : Ed} {rel w r : Nat} (hE : E = emt E1 rel 0) (hr12 : r < 12) (hwW : w ≤ W) (hw1 : 1 ≤ w) (hx : Fx m e W tok (E.1 3)) (hq : Q m e E w) (hb : BR m e E r) (ho : opk (tw tok W w) = 0) (h5 : tw tok W w ≠ -5) (hrel : 9 ≤ rel) (hwf : WFS (E1, 5, 0, rel, 0, []) w) : ∃ m2, N_Mo_rule_135 F m (nI (12 * e + r)) = some m2 ∧ ItR m m2 e W tok w (run tok (W - w) w (E1, 5, 0, rel, 0, [])) := by
  have hW4 := hx.2.2.2.1
  have he6 := hx.2.1
  have n0 : ¬ (0 : Int32) ≤ -1 := by decide
  have hr0 : ¬ rel = 0 := by omega
  unfold N_Mo_rule_135
  rw [hq.2.2.1, if_neg n0]
  by_cases c9 : tw tok W w = -19
  · have cw : w < W := by
      apply Classical.byContradiction
      intro q
      unfold tw at c9
      rw [if_neg q] at c9
      exact absurd c9 (by decide)
    have etw : tw tok W w = tok w := by unfold tw; rw [if_pos cw]
    rw [etw] at ho h5 
    have eta : ta (E1, 5, 0, rel, 0, []) w (tok w) = some (edR E w, 0, 0, 0, 0, []) := by
      rw [etw] at c9
      show tb E1 0 rel 0 [] w (tok w) = _
      unfold tb
      rw [if_neg (by rw [ho]; simp), if_neg (by omega)]
      simp [tbS, stl, hr0, c9, hE]
    have hwf2 := ta_wf (fun q => absurd q (by rw [← etw, c9]; decide)) hwf eta
    rw [needs_1 (F := F) hx hq.2.1 hq.2.2.1 (by omega) c9, Option.bind_some]
    simp only [show ¬ (1 : Int32) = 0 by decide, if_false]
    have b2 : ¬ (nI (12 * e + r) < 0 ∨ 72 ≤ (nI (12 * e + r)).toNatClampNeg) := nI_in (by omega) (by decide)
    have b3 : (nI (12 * e + r)).toNatClampNeg = 12 * e + r := nI_clamp (by omega)
    have b2' := b2
    rw [b3] at b2'
    have a1 : ¬ (nI e < 0 ∨ 6 ≤ (nI e).toNatClampNeg) := nI_in (by omega) (by decide)
    have a2 : (nI e).toNatClampNeg = e := nI_clamp (by omega)
    have e21 : (sPut m 23 (nI (w + 1))).1 21 = nI (E.1 2) := by simp [sPut, upd]; exact hq.1
    obtain ⟨m1, hm1⟩ : ∃ x, x = sPut m 23 (nI (w + 1)) := ⟨_, rfl⟩
    have e23 : m1.1 23 = nI (w + 1) := by rw [hm1]; simp [sPut, upd]
    have e22 : m1.1 22 = nI e := by rw [hm1]; simp [sPut, upd]; exact hx.1
    have em : m1.2 = m.2 := by rw [hm1]; rfl
    rw [← hm1] at e21 ⊢
    have e232 : nI (w + 1) - 2 = nI (w - 1) := by
      have : w + 1 = (w - 1) + 2 := by omega
      rw [this, Int32.sub_eq_add_neg]
      exact nI_m2 _
    obtain ⟨m2, hm2⟩ : ∃ x, x = sStI m1 16 (12 * e + r) (nI (E.1 2)) := ⟨_, rfl⟩
    obtain ⟨m3, hm3⟩ : ∃ x, x = sStI m2 18 (12 * e + r) (nI (w - 1)) := ⟨_, rfl⟩
    have e2_1 : m2.1 = m1.1 := by rw [hm2]; rfl
    have e3_1 : m3.1 = m1.1 := by rw [hm3, ← e2_1]; rfl
    have e13 : m3.2.1 13 e = nI r := by rw [hm3, sSt_o _ _ _ _ (by decide), hm2, sSt_o _ _ _ _ (by decide), em]; exact hb.2.1
    have f0 : FrI e m m1 := by rw [hm1]; exact (FrY.p23 e m _).i
    have f1 : FrI e m1 m2 := by rw [hm2]; exact FrI.st _ _ _ _ (by decide) (by simp [lim])
    have f2 : FrI e m2 m3 := by rw [hm3]; exact FrI.st _ _ _ _ (by decide) (by simp [lim])
    have f3 : FrI e m3 (sStI m3 13 e (nI (r + 1))) := FrI.st _ _ _ _ (by decide) (by simp [lim])
    have hq1 : Q m1 e E (w + 1) := by rw [hm1]; exact hq.adv
    have hq3 : Q (sStI m3 13 e (nI (r + 1))) e E (w + 1) := by
      apply Q.st _ _ _ _ (by decide) (by decide)
      rw [hm3]
      apply Q.st _ _ _ _ (by decide) (by decide)
      rw [hm2]
      exact Q.st hq1 _ _ _ (by decide) (by decide)
    have hx1 : Fx m1 e W tok (E.1 3) := by rw [hm1]; exact hx.p23 _
    have hx3 : Fx (sStI m3 13 e (nI (r + 1))) e W tok (E.1 3) := by
      apply Fx.st _ _ _ _ (by decide) (by decide) (by decide)
      rw [hm3]
      apply Fx.st _ _ _ _ (by decide) (by decide) (by decide)
      rw [hm2]
      exact Fx.st hx1 _ _ _ (by decide) (by decide) (by decide)
    obtain ⟨x1, x2, x3, x4, x5⟩ := edR_ext (w := w) hb.1
    obtain ⟨g1, g2, g3, g4, g5, g6, g7⟩ := hb
    have s16 : (sStI m3 13 e (nI (r + 1))).2.1 16 = m2.2.1 16 := by rw [sSt_o _ _ _ _ (by decide), hm3, sSt_o _ _ _ _ (by decide)]
    have s18 : (sStI m3 13 e (nI (r + 1))).2.1 18 = m3.2.1 18 := by rw [sSt_o _ _ _ _ (by decide)]
    have sO : ∀ k, k ≠ 13 → k ≠ 16 → k ≠ 18 → (sStI m3 13 e (nI (r + 1))).2.1 k = m.2.1 k := by
      intro k h1 h2 h3
      rw [sSt_o _ _ _ _ h1, hm3, sSt_o _ _ _ _ h3, hm2, sSt_o _ _ _ _ h2, em]
    refine ⟨sStI m3 13 e (nI (r + 1)), ?_, ((f0.trans f1).trans f2).trans f3, Or.inr ⟨w + 1, edR E w, 0, by omega, by omega, ⟨?_, ?_, ?_, ?_, ?_⟩, hwf2, run_step cw eta⟩⟩
    · rw [if_neg b2, b3, e21, ← hm2, Option.bind_some, e2_1, e23, e232, if_neg b2', ← hm3, Option.bind_some, e3_1, e22, if_neg a1, if_neg a1, a2, e13, nI_1, Option.bind_some]
    · rw [x1]; exact hx3
    · exact hq3.same (by rw [x1]) (x2 0 (by decide) (by decide)) (x2 1 (by decide) (by decide))
    · rw [sSt_e, x1, g1]
    · rw [x1]
      unfold TbN at g3 ⊢
      rw [sO 11 (by decide) (by decide) (by decide), sO 12 (by decide) (by decide) (by decide), x2 3 (by decide) (by decide), x2 4 (by decide) (by decide)]
      exact g3
    · rw [x1, g1]
      intro k hk
      rw [sO 17 (by decide) (by decide) (by decide), sO 14 (by decide) (by decide) (by decide), sO 15 (by decide) (by decide) (by decide), s16, s18, x2 5 (by decide) (by decide), x2 6 (by decide) (by decide), x2 8 (by decide) (by decide), x2 10 (by decide) (by decide)]
      by_cases c : k = r
      · subst c
        rw [x3, x4, hm2, sSt_e, hm3, sSt_e, nI_1]
        exact ⟨g5, g6, by congr 1; omega, g7, rfl⟩
      · rw [(x5 k c).1, (x5 k c).2, hm3, sSt_n _ _ _ _ (by omega), hm2, sSt_n _ _ _ _ (by omega), sSt_o _ _ _ _ (by decide), em]
        exact g4 k (by omega)
  · obtain ⟨m2, x2, f2, y2⟩ := needs_0 (F := F) hx hq.2.1 hq.2.2.1 (by omega) c9
    refine ⟨m2, by rw [x2, Option.bind_some]; rfl, f2.i, Or.inl ⟨w, hwW, y2, ?_⟩⟩
    by_cases cw : w < W
    · have etw : tw tok W w = tok w := by unfold tw; rw [if_pos cw]
      rw [etw] at ho h5 c9
      apply run_bad cw
      show tb E1 0 rel 0 [] w (tok w) = none
      unfold tb
      rw [if_neg (by rw [ho]; simp), if_neg (by omega)]
      simp [tbS, stl, hr0, c9, h5]
    · exact run_end (by omega) (by simp)
theorem rule_bad {m : MS} {j : Nat} {x : Int32} (h : m.1 24 = nI j) (hj : j ≤ 400) : N_Mo_rule_135 F m x = some m := by
  have h0 : 0 ≤ nI j := nI_pos' (by omega)
  unfold N_Mo_rule_135
  rw [h, if_pos h0]
/-- conditions, and the rule's end -/
theorem cond_end (htok : ∀ i, i < W → 0 ≤ tok i → ∃ v : Nat, v < 1000000000 ∧ tok i = nI v) (hF : 900 < F) {m : MS} {E : Ed} {w r : Nat} (hr12 : r < 12) (hwW : w ≤ W) (hw1 : 1 ≤ w) (hx : Fx m e W tok (E.1 3)) (hq : Q m e E w) (hb : BR m e E r) (hwf : WFS (E, 2, 0, 0, 0, []) w) : ∃ m1 m2, N_Mo_conditions F m = some m1 ∧ N_Mo_rule_135 F m1 (nI (12 * e + r)) = some m2 ∧ ItR m m2 e W tok w (run tok (W - w) w (E, 2, 0, 0, 0, [])) := by
  have hW4 := hx.2.2.2.1
  obtain ⟨m1, x1, f1, y1⟩ := cond_main (F := F) htok hF (W - w) w F m E hwW (Nat.le_refl _) (by omega) hx hq rfl hwf
  rcases y1 with ⟨j, hj, hj2, hj3⟩ | ⟨w2, E1, rel, q1, q2, q3, q4, q5, q6, q7, q8, q9, q10⟩
  · exact ⟨m1, m1, x1, rule_bad hj2 (by omega), f1.i, Or.inl ⟨j, hj, hj2, hj3⟩⟩
  · have e3 := q9.1 3 (by decide)
    obtain ⟨m2, x2, y2⟩ := rule_end (F := F) hF (E1 := E1) (E := emt E1 rel 0) rfl hr12 q2 (by omega) (by rw [e3]; exact hx.fr f1) q5 (hb.ext q9 f1) q6 q7 q3 q8
    exact ⟨m1, m2, x1, x2, by rw [q10]; exact ItR.pre f1.i q1 y2⟩
theorem rule_eq (htok : ∀ i, i < W → 0 ≤ tok i → ∃ v : Nat, v < 1000000000 ∧ tok i = nI v) (hF : 900 < F) {m : MS} {E : Ed} {nw w : Nat} (hw : w < W) (h : NI m e W tok E w) (hwf : WFS (E, 0, 0, 0, nw, []) w) (ht : tok w = -2 ∨ tok w = -3) : ∃ m2, N_Mo_rule F m = some m2 ∧ ItR m m2 e W tok w (run tok (W - w) w (E, 0, 0, 0, nw, [])) := by
  obtain ⟨hx, hq, h13, hT, hR⟩ := h
  have hW4 := hx.2.2.2.1
  have he6 := hx.2.1
  have n0 : ¬ (0 : Int32) ≤ -1 := by decide
  have a1 : ¬ (nI e < 0 ∨ 6 ≤ (nI e).toNatClampNeg) := nI_in (by omega) (by decide)
  have a2 : (nI e).toNatClampNeg = e := nI_clamp (by omega)
  have a3 : nI (12 * e) + nI (E.1 4) = nI (12 * e + E.1 4) := nI_add _ _
  have h12 : E.1 4 ≤ 12 := by
    rcases hwf.2 with q | q
    · exact q.2.1.2.2.1
    · have := q.1; simp at this
  by_cases c : E.1 4 < 12
  · have c' : ¬ (12 : Int32) ≤ nI (E.1 4) := nI_ge (a := E.1 4) (b := 12) c (by omega)
    obtain ⟨h, hh⟩ : ∃ h : Nat, h = if tok w = -3 then 1 else 0 := ⟨_, rfl⟩
    obtain ⟨r, hr⟩ : ∃ r, r = E.1 4 := ⟨_, rfl⟩
    have eta : ta (E, 0, 0, 0, nw, []) w (tok w) = some (bgR E w h, 2, 0, 0, h, []) := by
      rw [hh]
      rcases ht with ht | ht <;> simp [ta, ht, c]
    have hwf2 := ta_wf (fun q => by
      exfalso
      rcases ht with ht | ht <;> rw [ht] at q <;> exact absurd q (by decide)) hwf eta
    have b2 : ¬ (nI (12 * e + r) < 0 ∨ 72 ≤ (nI (12 * e + r)).toNatClampNeg) := nI_in (by omega) (by decide)
    have b3 : (nI (12 * e + r)).toNatClampNeg = 12 * e + r := nI_clamp (by omega)
    have b2' := b2
    rw [b3] at b2'
    have en := now_eq (F := F) hx hq.2.1 (by omega)
    have etw : tw tok W w = tok w := by unfold tw; rw [if_pos hw]
    rw [etw] at en
    obtain ⟨m1, hm1⟩ : ∃ x, x = sStI m 14 (12 * e + r) (nI (E.1 2)) := ⟨_, rfl⟩
    obtain ⟨m2, hm2⟩ : ∃ x, x = sStI m1 15 (12 * e + r) (-1) := ⟨_, rfl⟩
    obtain ⟨m3, hm3⟩ : ∃ x, x = sStI m2 17 (12 * e + r) (nI w) := ⟨_, rfl⟩
    obtain ⟨m4, hm4⟩ : ∃ x, x = sPut m3 23 (nI (w + 1)) := ⟨_, rfl⟩
    have e2_1 : m2.1 = m.1 := by rw [hm2, hm1]; rfl
    have e3_1 : m3.1 = m.1 := by rw [hm3, ← e2_1]; rfl
    have f1 : FrI e m m1 := by rw [hm1]; exact FrI.st _ _ _ _ (by decide) (by simp [lim])
    have f2 : FrI e m1 m2 := by rw [hm2]; exact FrI.st _ _ _ _ (by decide) (by simp [lim])
    have f3 : FrI e m2 m3 := by rw [hm3]; exact FrI.st _ _ _ _ (by decide) (by simp [lim])
    have f4 : FrI e m3 m4 := by rw [hm4]; exact (FrY.p23 e _ _).i
    have f14 := ((f1.trans f2).trans f3).trans f4
    have g3 : (bgR E w h).1 3 = E.1 3 := by simp [bgR, setS, setR]
    have g4 : (bgR E w h).1 4 = r + 1 := by simp [bgR, setS, setR, hr]
    have g2 : (bgR E w h).1 2 = E.1 2 := by simp [bgR, setS, setR]
    have gr : ∀ j, j < 5 → (bgR E w h).2 j = E.2 j := by
      intro j hj
      have : j = 0 ∨ j = 1 ∨ j = 2 ∨ j = 3 ∨ j = 4 := by omega
      rcases this with q | q | q | q | q <;> subst q <;> simp [bgR, setS, setR]
    have hx4 : Fx m4 e W tok ((bgR E w h).1 3) := by
      rw [g3, hm4]
      apply Fx.p23
      rw [hm3]
      apply Fx.st _ _ _ _ (by decide) (by decide) (by decide)
      rw [hm2]
      apply Fx.st _ _ _ _ (by decide) (by decide) (by decide)
      rw [hm1]
      exact Fx.st hx _ _ _ (by decide) (by decide) (by decide)
    have hq3 : Q m3 e E w := by
      rw [hm3]
      apply Q.st _ _ _ _ (by decide) (by decide)
      rw [hm2]
      apply Q.st _ _ _ _ (by decide) (by decide)
      rw [hm1]
      exact Q.st hq _ _ _ (by decide) (by decide)
    have hq4 : Q m4 e (bgR E w h) (w + 1) := by
      rw [hm4]
      exact (hq3.adv (v := w + 1)).same g2 (gr 0 (by decide)) (gr 1 (by decide))
    have sO : ∀ k, k ≠ 14 → k ≠ 15 → k ≠ 17 → m4.2.1 k = m.2.1 k := by
      intro k h1 h2 h3
      have : m4.2.1 k = m3.2.1 k := by rw [hm4]; rfl
      rw [this, hm3, sSt_o _ _ _ _ h3, hm2, sSt_o _ _ _ _ h2, hm1, sSt_o _ _ _ _ h1]
    have e43 : m4.2 = m3.2 := by rw [hm4]; rfl
    have s14 : m4.2.1 14 = m1.2.1 14 := by rw [e43, hm3, sSt_o _ _ _ _ (by decide), hm2, sSt_o _ _ _ _ (by decide)]
    have s15 : m4.2.1 15 = m2.2.1 15 := by rw [e43, hm3, sSt_o _ _ _ _ (by decide)]
    have s17 : m4.2.1 17 = m3.2.1 17 := by rw [e43]
    have hb4 : m4.2.1 13 e = nI r ∧ TbN m4 e (bgR E w h) ((bgR E w h).1 3) ∧ RuN m4 e (bgR E w h) r ∧ m4.2.1 17 (12 * e + r) = nI ((bgR E w h).2 5 r) ∧ m4.2.1 14 (12 * e + r) = nI ((bgR E w h).2 6 r) ∧ m4.2.1 15 (12 * e + r) = -1 := by
      refine ⟨by rw [sO 13 (by decide) (by decide) (by decide), hr]; exact h13, ?_, ?_, ?_, ?_, ?_⟩
      · rw [g3]
        unfold TbN at hT ⊢
        rw [sO 11 (by decide) (by decide) (by decide), sO 12 (by decide) (by decide) (by decide), gr 3 (by decide), gr 4 (by decide)]
        exact hT
      · intro k hk
        have hk2 : k ≠ E.1 4 := by omega
        have u := hR k (by omega)
        rw [s17, s14, s15, sO 18 (by decide) (by decide) (by decide), sO 16 (by decide) (by decide) (by decide)]
        rw [hm3, sSt_n _ _ _ _ (by omega), hm2, sSt_n _ _ _ _ (by omega), sSt_o _ _ _ _ (by decide), hm1, sSt_n _ _ _ _ (by omega), sSt_o _ _ _ _ (by decide), sSt_o _ _ _ _ (by decide)]
        simp only [bgR, setS, setR]
        simp [hk2]
        simpa using u
      · rw [s17, hm3, sSt_e]
        simp [bgR, setS, setR, hr]
      · rw [s14, hm1, sSt_e]
        simp [bgR, setS, setR, hr]
      · rw [s15, hm2, sSt_e]
    have e10 : (bgR E w h).2 10 r = h := by simp [bgR, setS, setR, hr]
    have pre : N_Mo_rule F m = N_Mo_rule_59 F m (nI (12 * e + r)) (nI h) := by
      unfold N_Mo_rule N_Mo_rule_38
      rw [hx.1, if_neg a1, if_neg a1, a2, h13, if_neg c', nI_12, a3, want_1 (F := F) hq.2.2.1 (x := 1) (by decide), Option.bind_some, if_neg (show ¬ (1 : Int32) = 0 by decide), en, Option.bind_some, ← hr]
      rw [hh]
      rcases ht with ht | ht
      · simp [ht, nI_0]
      · simp [ht]
        rfl
    have e23m3 : m3.1 23 = nI w := hq3.2.1
    have pre2 : N_Mo_rule_59 F m (nI (12 * e + r)) (nI h) = ((N_Mo_conditions F m4).bind fun q12 => if 0 ≤ (q12.1 24) then N_Mo_rule_135 F q12 (nI (12 * e + r)) else if nI h = 0 then N_Mo_rule_135 F q12 (nI (12 * e + r)) else (N_Mo_needs F q12 (-4)).bind fun q16 => if q16.1 = 0 then N_Mo_rule_135 F q16.2 (nI (12 * e + r)) else if nI (12 * e + r) < 0 ∨ 72 ≤ (nI (12 * e + r)).toNatClampNeg then none else (some (sStI q16.2 15 (nI (12 * e + r)).toNatClampNeg (q16.2.1 21))).bind fun y20 => (N_Mo_conditions F y20).bind fun q22 => N_Mo_rule_135 F q22 (nI (12 * e + r))) := by
      unfold N_Mo_rule_59
      rw [if_neg b2, b3, hq.1, ← hm1, Option.bind_some, if_neg b2', ← hm2, Option.bind_some, if_neg b2', e2_1, hq.2.1, ← hm3, Option.bind_some, e23m3, nI_1, ← hm4, Option.bind_some]
    rw [pre, pre2, run_step hw eta]
    have hh01 : h = 0 ∨ h = 1 := by rw [hh]; split <;> simp
    rcases hh01 with h0 | h1
    · -- no need
      rw [h0] at hwf2 hx4 hq4 hb4 e10 g4 ⊢
      have hb : BR m4 e (bgR E w 0) r := ⟨g4, hb4.1, hb4.2.1, hb4.2.2.1, hb4.2.2.2.1, hb4.2.2.2.2.1, by rw [e10, if_pos rfl]; exact hb4.2.2.2.2.2⟩
      obtain ⟨m5, m6, x5, x6, y6⟩ := cond_end (F := F) htok hF (by omega) (by omega) (by omega) hx4 hq4 hb hwf2
      refine ⟨m6, ?_, ItR.pre f14 (by omega) y6⟩
      rw [x5, Option.bind_some, if_pos (show nI 0 = 0 from rfl)]
      rw [x6]
      split <;> rfl
    · -- a need as well
      rw [h1] at hwf2 hx4 hq4 hb4 e10 g4 ⊢
      have hb : BR m4 e (bgR E w 0) r → True := fun _ => trivial
      obtain ⟨m5, x5, f5, y5⟩ := cond_main (F := F) htok hF (W - (w + 1)) (w + 1) F m4 (bgR E w 1) (by omega) (Nat.le_refl _) (by omega) hx4 hq4 rfl hwf2
      have x5 : N_Mo_conditions F m4 = some m5 := x5
      rw [x5, Option.bind_some]
      rcases y5 with ⟨j, hj, hj2, hj3⟩ | ⟨w2, E1, rel, q1, q2, q3, q4, q5, q6, q7, q8, q9, q10⟩
      · have h0 : 0 ≤ nI j := nI_pos' (by omega)
        refine ⟨m5, ?_, f14.trans f5.i, Or.inl ⟨j, hj, hj2, hj3⟩⟩
        rw [hj2, if_pos h0]
        exact rule_bad hj2 (by omega)
      · have e3 := q9.1 3 (by decide)
        have hx5 : Fx m5 e W tok ((emt E1 rel 0).1 3) := by rw [e3]; exact hx4.fr f5
        have hr0 : ¬ rel = 0 := by omega
        have g4' : (emt E1 rel 0).1 4 = r + 1 := by rw [q9.1 4 (by decide)]; exact g4
        rw [q5.2.2.1, if_neg n0, if_neg (show ¬ nI 1 = 0 by decide), q10]
        by_cases c4 : tw tok W w2 = -4
        · have cw : w2 < W := by
            apply Classical.byContradiction
            intro q
            unfold tw at c4
            rw [if_neg q] at c4
            exact absurd c4 (by decide)
          have etw2 : tw tok W w2 = tok w2 := by unfold tw; rw [if_pos cw]
          rw [etw2] at q6 q7
          have eta2 : ta (E1, 5, 0, rel, 1, []) w2 (tok w2) = some (bgN (emt E1 rel 0), 2, 0, 0, 0, []) := by
            rw [etw2] at c4
            show tb E1 0 rel 1 [] w2 (tok w2) = _
            unfold tb
            rw [if_neg (by rw [q6]; simp), if_neg (by omega)]
            simp [tbS, stl, hr0, c4]
          have hwf3 := ta_wf (fun q => absurd q (by rw [← etw2, c4]; decide)) q8 eta2
          rw [needs_1 (F := F) hx5 q5.2.1 q5.2.2.1 (by omega) c4, Option.bind_some]
          simp only [show ¬ (1 : Int32) = 0 by decide, if_false, b2, b3]
          obtain ⟨x1, x2, x3, x4⟩ := bgN_ext g4'
          obtain ⟨m6, hm6⟩ : ∃ x, x = sPut m5 23 (nI (w2 + 1)) := ⟨_, rfl⟩
          have hq6 : Q m6 e (emt E1 rel 0) (w2 + 1) := by rw [hm6]; exact q5.adv
          have hx6 : Fx m6 e W tok ((emt E1 rel 0).1 3) := by rw [hm6]; exact hx5.p23 _
          have f6 : FrY e m4 m6 := by rw [hm6]; exact f5.trans (FrY.p23 e _ _)
          rw [← hm6]
          obtain ⟨m7, hm7⟩ : ∃ x, x = sStI m6 15 (12 * e + r) (nI ((emt E1 rel 0).1 2)) := ⟨_, rfl⟩
          have f7 : FrI e m6 m7 := by rw [hm7]; exact FrI.st _ _ _ _ (by decide) (by simp [lim])
          have hq7 : Q m7 e (bgN (emt E1 rel 0)) (w2 + 1) := by
            rw [hm7]
            exact (hq6.st _ _ _ (by decide) (by decide)).same (by rw [x1]) (x2 0 (by decide)) (x2 1 (by decide))
          have hx7 : Fx m7 e W tok ((bgN (emt E1 rel 0)).1 3) := by
            rw [x1, hm7]
            exact hx6.st _ _ _ (by decide) (by decide) (by decide)
          have gext : ∀ j, 5 ≤ j → j ≤ 10 → (emt E1 rel 0).2 j = (bgR E w 1).2 j := fun j h1 _ => q9.2.2.1 j (by omega)
          have t6 : ∀ k, k ≠ 19 → k ≠ 20 → k ≠ 25 → k ≠ 26 → m6.2.1 k = m4.2.1 k := fun k h1 h2 h3 h4 => f6.1.2.1 k (by simp [h1, h2, h3, h4])
          have hb7 : BR m7 e (bgN (emt E1 rel 0)) r := by
            obtain ⟨v1, v2, v3, v4, v5, v6⟩ := hb4
            refine ⟨by rw [x1]; exact g4', ?_, ?_, ?_, ?_, ?_, ?_⟩
            · rw [hm7, sSt_o _ _ _ _ (by decide), t6 13 (by decide) (by decide) (by decide) (by decide)]; exact v1
            · rw [x1, e3]
              unfold TbN at v2 ⊢
              rw [hm7, sSt_o _ _ _ _ (by decide), sSt_o _ _ _ _ (by decide), t6 11 (by decide) (by decide) (by decide) (by decide), t6 12 (by decide) (by decide) (by decide) (by decide), x2 3 (by decide), x2 4 (by decide), q9.2.2.1 3 (by decide), q9.2.2.1 4 (by decide)]
              exact v2
            · intro k hk
              have u := v3 k hk
              have o7 : ∀ k, k ≠ 15 → m7.2.1 k = m6.2.1 k := fun k h => by rw [hm7]; exact sSt_o _ _ _ _ h
              have o15 : m7.2.1 15 (12 * e + k) = m6.2.1 15 (12 * e + k) := by rw [hm7]; exact sSt_n _ _ _ _ (by omega)
              rw [o7 17 (by decide), o7 14 (by decide), o7 18 (by decide), o7 16 (by decide), o15, t6 17 (by decide) (by decide) (by decide) (by decide), t6 14 (by decide) (by decide) (by decide) (by decide), t6 18 (by decide) (by decide) (by decide) (by decide), t6 15 (by decide) (by decide) (by decide) (by decide), t6 16 (by decide) (by decide) (by decide) (by decide), x2 5 (by decide), x2 6 (by decide), x2 7 (by decide), x2 9 (by decide), x2 10 (by decide), x4 k (by omega), gext 5 (by decide) (by decide), gext 6 (by decide) (by decide), gext 7 (by decide) (by decide), gext 8 (by decide) (by decide), gext 9 (by decide) (by decide), gext 10 (by decide) (by decide)]
              exact u
            · rw [hm7, sSt_o _ _ _ _ (by decide), t6 17 (by decide) (by decide) (by decide) (by decide), x2 5 (by decide), gext 5 (by decide) (by decide)]; exact v4
            · rw [hm7, sSt_o _ _ _ _ (by decide), t6 14 (by decide) (by decide) (by decide) (by decide), x2 6 (by decide), gext 6 (by decide) (by decide)]; exact v5
            · rw [hm7, sSt_e, x2 10 (by decide), gext 10 (by decide) (by decide), e10, x3, if_neg (by decide)]
          obtain ⟨m8, m9, x8, x9, y9⟩ := cond_end (F := F) htok hF (by omega) (by omega) (by omega) hx7 hq7 hb7 hwf3
          refine ⟨m9, ?_, ?_⟩
          · rw [hq6.1, ← hm7, Option.bind_some, x8, Option.bind_some, x9, if_neg b2']
          · rw [run_step cw eta2]
            exact ItR.pre ((f14.trans f6.i).trans f7) (by omega) y9
        · obtain ⟨m6, x6, f6, y6⟩ := needs_0 (F := F) hx5 q5.2.1 q5.2.2.1 (by omega) c4
          refine ⟨m6, ?_, (f14.trans f5.i).trans f6.i, Or.inl ⟨w2, q2, y6, ?_⟩⟩
          · rw [x6, Option.bind_some]
            simp only [if_true]
            exact rule_bad y6 (by omega)
          · by_cases cw : w2 < W
            · have etw2 : tw tok W w2 = tok w2 := by unfold tw; rw [if_pos cw]
              rw [etw2] at q6 q7 c4
              apply run_bad cw
              show tb E1 0 rel 1 [] w2 (tok w2) = none
              unfold tb
              rw [if_neg (by rw [q6]; simp), if_neg (by omega)]
              simp [tbS, stl, hr0, c4, q7]
            · exact run_end (by omega) (by simp)
  · have e12 : E.1 4 = 12 := by omega
    refine ⟨sPut m 24 (nI w), ?_, (FrY.p24 e m _).i, Or.inl ⟨w, by omega, by simp [sPut, upd], run_bad hw (by rcases ht with ht | ht <;> simp [ta, ht, c])⟩⟩
    unfold N_Mo_rule N_Mo_rule_38
    rw [hx.1, if_neg a1, if_neg a1, a2, h13, e12, if_pos (show (12 : Int32) ≤ nI 12 by decide), want_0 (F := F) hq.2.2.1 hq.2.1 (by omega), Option.bind_some, if_pos rfl]
end RULE
