section READN
variable {F : Nat} {e W : Nat} {tok : Nat → Int32} {d : Int32}
/-- how the reference's reading ends -/
def RdR (m : MS) (e W : Nat) (tok : Nat → Int32) (d : Int32) (x : Int32) (m2 : MS) (R : Nat ⊕ SA) : Prop :=
  (∃ j, j ≤ W ∧ R = .inl j ∧ x = -1 - nI j ∧ FrI e m m2) ∨ ∃ m1 E2 nw2, R = .inr (E2, 0, 0, 0, nw2, []) ∧ x = nI (E2.1 4) ∧ FrI e m m1 ∧ NI m1 e W tok E2 W ∧ WFS (E2, 0, 0, 0, nw2, []) W ∧ m2 = sPut (sStI m1 4 e d) 3 (m1.1 3 + 1)
theorem RdR.pre {m m1 m2 : MS} {x : Int32} {R : Nat ⊕ SA} (f : FrI e m m1) (h : RdR m1 e W tok d x m2 R) : RdR m e W tok d x m2 R := by
  rcases h with ⟨j, q1, q2, q3, q4⟩ | ⟨m3, E2, nw2, q1, q2, q3, q4⟩
  · exact Or.inl ⟨j, q1, q2, q3, f.trans q4⟩
  · exact Or.inr ⟨m3, E2, nw2, q1, q2, f.trans q3, q4⟩
theorem rd_bad {m : MS} {z j : Nat} (h : m.1 24 = nI j) (hj : j ≤ 400) (hz : 0 < z) : N_Mo_read_113 F z m d = some (-1 - nI j, m) := by
  obtain ⟨z, rfl⟩ : ∃ y, z = y + 1 := ⟨z - 1, by omega⟩
  have h0 : 0 ≤ nI j := nI_pos' (by omega)
  have h1 : ¬ nI j < 0 := nI_pos (by omega)
  show BN_Mo_read_113 F (N_Mo_read_113 F z) m d = _
  unfold BN_Mo_read_113 N_Mo_read_188
  rw [h, if_pos h0, if_neg h1]
theorem read_step (htok : ∀ i, i < W → 0 ≤ tok i → ∃ v : Nat, v < 1000000000 ∧ tok i = nI v) (hF : 900 < F) (w z : Nat) (m : MS) (E : Ed) (nw : Nat) (hwW : w ≤ W) (hz : W - w + 1 < z) (h : NI m e W tok E w) (hwf : WFS (E, 0, 0, 0, nw, []) w)
    (ih : ∀ (w2 z2 : Nat) (m2 : MS) (E2 : Ed) (nw2 : Nat), w < w2 → w2 ≤ W → W - w2 + 1 < z2 → NI m2 e W tok E2 w2 → WFS (E2, 0, 0, 0, nw2, []) w2 → ∃ x m3, N_Mo_read_113 F z2 m2 d = some (x, m3) ∧ RdR m2 e W tok d x m3 (run tok (W - w2) w2 (E2, 0, 0, 0, nw2, []))) :
    ∃ x m2, N_Mo_read_113 F z m d = some (x, m2) ∧ RdR m e W tok d x m2 (run tok (W - w) w (E, 0, 0, 0, nw, [])) := by
  obtain ⟨z, rfl⟩ : ∃ y, z = y + 1 := ⟨z - 1, by omega⟩
  obtain ⟨hx, hq, h13, hT, hR⟩ := id h
  have hW4 := hx.2.2.2.1
  have he6 := hx.2.1
  have n0 : ¬ (0 : Int32) ≤ -1 := by decide
  have a1 : ¬ (nI e < 0 ∨ 6 ≤ (nI e).toNatClampNeg) := nI_in (by omega) (by decide)
  have a2 : (nI e).toNatClampNeg = e := nI_clamp (by omega)
  by_cases cw : w < W
  · have c' : ¬ nI W ≤ nI w := nI_ge cw (by omega)
    have en := now_eq (F := F) hx hq.2.1 (by omega)
    have etw : tw tok W w = tok w := by unfold tw; rw [if_pos cw]
    rw [etw] at en
    have pre : N_Mo_read_113 F (z + 1) m d = if tok w = -1 then ((N_Mo_tableP F m).bind fun q => N_Mo_read_113 F z q d) else if tok w = -2 then N_Mo_read_170 F (N_Mo_read_113 F z) m d else if tok w = -3 then N_Mo_read_170 F (N_Mo_read_113 F z) m d else N_Mo_read_175 F (N_Mo_read_113 F z) m d 0 := by
      show BN_Mo_read_113 F (N_Mo_read_113 F z) m d = _
      unfold BN_Mo_read_113
      rw [hq.2.2.1, if_neg n0, hx.1, if_neg a1, a2, hx.2.2.1, hq.2.1, if_neg c', en, Option.bind_some]
      simp only [en, Option.bind_some]
    have fin : ∀ {m1 : MS}, ItR m m1 e W tok w (run tok (W - w) w (E, 0, 0, 0, nw, [])) → ∃ x m2, N_Mo_read_113 F z m1 d = some (x, m2) ∧ RdR m e W tok d x m2 (run tok (W - w) w (E, 0, 0, 0, nw, [])) := by
      intro m1 g
      obtain ⟨f1, ⟨j, hj, hj2, hj3⟩ | ⟨w2, E2, nw2, q1, q2, q3, q4, q5⟩⟩ := g
      · exact ⟨-1 - nI j, m1, rd_bad hj2 (by omega) (by omega), Or.inl ⟨j, hj, hj3, rfl, f1⟩⟩
      · obtain ⟨x, m3, x3, y3⟩ := ih w2 z m1 E2 nw2 q1 q2 (by omega) q3 q4
        exact ⟨x, m3, x3, by rw [q5]; exact y3.pre f1⟩
    rw [pre]
    by_cases c1 : tok w = -1
    · obtain ⟨m1, x1, y1⟩ := table_eq (F := F) htok hF cw h hwf c1
      rw [if_pos c1, x1, Option.bind_some]
      exact fin y1
    · rw [if_neg c1]
      by_cases c23 : tok w = -2 ∨ tok w = -3
      · obtain ⟨m1, x1, y1⟩ := rule_eq (F := F) htok hF cw h hwf c23
        have e170 : N_Mo_read_170 F (N_Mo_read_113 F z) m d = N_Mo_read_113 F z m1 d := by
          unfold N_Mo_read_170 N_Mo_read_175
          rw [want_1 (F := F) hq.2.2.1 (x := 1) (by decide), Option.bind_some, if_neg (show ¬ (1 : Int32) = 0 by decide), x1, Option.bind_some]
        have : (if tok w = -2 then N_Mo_read_170 F (N_Mo_read_113 F z) m d else if tok w = -3 then N_Mo_read_170 F (N_Mo_read_113 F z) m d else N_Mo_read_175 F (N_Mo_read_113 F z) m d 0) = N_Mo_read_113 F z m1 d := by
          rcases c23 with c | c
          · rw [if_pos c, e170]
          · rw [if_neg (by rw [c]; decide), if_pos c, e170]
        rw [this]
        exact fin y1
      · have c2 : ¬ tok w = -2 := fun q => c23 (Or.inl q)
        have c3 : ¬ tok w = -3 := fun q => c23 (Or.inr q)
        rw [if_neg c2, if_neg c3]
        refine ⟨-1 - nI w, sPut m 24 (nI w), ?_, Or.inl ⟨w, hwW, run_bad cw ?_, rfl, (FrY.p24 e m _).i⟩⟩
        · unfold N_Mo_read_175
          rw [want_0 (F := F) hq.2.2.1 hq.2.1 (by omega), Option.bind_some, if_pos rfl]
          exact rd_bad (by simp [sPut, upd]) (by omega) (by omega)
        · simp [ta, c1, c2, c3]
  · have ew : w = W := by omega
    have c' : nI W ≤ nI w := nI_le (by omega) (by omega)
    subst ew
    refine ⟨nI (E.1 4), sPut (sStI m 4 e d) 3 (m.1 3 + 1), ?_, Or.inr ⟨m, E, nw, by simp [run], rfl, FrI.refl e m, h, hwf, rfl⟩⟩
    show BN_Mo_read_113 F (N_Mo_read_113 F z) m d = _
    unfold BN_Mo_read_113 N_Mo_read_188
    have e22 : (sStI m 4 e d).1 22 = nI e := hx.1
    have e22b : (sPut (sStI m 4 e d) 3 (m.1 3 + 1)).1 22 = nI e := by simp [sPut, upd]; exact e22
    have e13 : (sPut (sStI m 4 e d) 3 (m.1 3 + 1)).2.1 13 e = nI (E.1 4) := by
      show (sStI m 4 e d).2.1 13 e = _
      rw [sSt_o _ _ _ _ (by decide)]; exact h13
    rw [hq.2.2.1, if_neg n0, hx.1, if_neg a1, a2, hx.2.2.1, hq.2.1, if_pos c', if_pos (show (-1 : Int32) < 0 by decide), if_neg (show ¬ (nI e < 0 ∨ 6 ≤ e) by rw [a2] at a1; exact a1), Option.bind_some]
    show (some (sPut (sStI m 4 e d) 3 (m.1 3 + 1))).bind _ = _
    rw [Option.bind_some, e22b, if_neg a1, a2, e13]
theorem read_loop (htok : ∀ i, i < W → 0 ≤ tok i → ∃ v : Nat, v < 1000000000 ∧ tok i = nI v) (hF : 900 < F) : ∀ (D w z : Nat) (m : MS) (E : Ed) (nw : Nat), w ≤ W → W - w ≤ D → W - w + 1 < z → NI m e W tok E w → WFS (E, 0, 0, 0, nw, []) w → ∃ x m2, N_Mo_read_113 F z m d = some (x, m2) ∧ RdR m e W tok d x m2 (run tok (W - w) w (E, 0, 0, 0, nw, [])) := by
  intro D
  induction D with
  | zero =>
    intro w z m E nw h1 h2 h3 h4 h5
    exact read_step htok hF w z m E nw h1 h3 h4 h5 (fun w2 z2 m2 E2 nw2 g1 g2 => by omega)
  | succ D ih =>
    intro w z m E nw h1 h2 h3 h4 h5
    exact read_step htok hF w z m E nw h1 h3 h4 h5 (fun w2 z2 m2 E2 nw2 g1 g2 g3 => ih w2 z2 m2 E2 nw2 g2 (by omega) g3)
end READN
/-! WHAT THE AUTOMATON KEEPS: day, bytes, words of rules -/
def Ke (E E2 : Ed) : Prop := E2.1 0 = E.1 0 ∧ E2.1 1 = E.1 1 ∧ E2.1 4 = E.1 4 ∧ E2.2 5 = E.2 5 ∧ E2.2 7 = E.2 7
theorem Ke.refl (E : Ed) : Ke E E := ⟨rfl, rfl, rfl, rfl, rfl⟩
theorem Ke.trans {E E2 E3 : Ed} (h : Ke E E2) (g : Ke E2 E3) : Ke E E3 := ⟨g.1.trans h.1, g.2.1.trans h.2.1, g.2.2.1.trans h.2.2.1, g.2.2.2.1.trans h.2.2.2.1, g.2.2.2.2.trans h.2.2.2.2⟩
theorem emt_ke (E : Ed) (k v : Nat) : Ke E (emt E k v) := ⟨(emt_ext E k v).1 0 (by decide), (emt_ext E k v).1 1 (by decide), (emt_ext E k v).1 4 (by decide), (emt_ext E k v).2.2.1 5 (by decide), (emt_ext E k v).2.2.1 7 (by decide)⟩
theorem stl_ke (r : Nat) : ∀ (L : List (Nat × Nat)) (E : Ed) (ar : Nat), Ke E (stl r L E ar).2.1 := by
  intro L
  induction L with
  | nil => intro E ar; exact Ke.refl E
  | cons x L ih =>
    intro E ar
    simp only [stl]
    by_cases c : rnkK x.1 < r
    · simp only [c, if_true]; exact Ke.refl E
    · simp only [c, if_false]; exact (emt_ke E x.1 x.2).trans (ih _ _)
theorem enA_ke (E : Ed) (ar rel nw : Nat) (L : List (Nat × Nat)) : Ke E (enA E ar rel nw L).1 := stl_ke 3 L E ar
def FW (d0 n0 : Nat) (S : SA) (w : Nat) : Prop := S.1.1 0 = d0 ∧ S.1.1 1 = n0 ∧ (S.2.1 ≤ 1 → ∀ k, k < S.1.1 4 → S.1.2 5 k < S.1.2 7 k ∧ S.1.2 7 k ≤ w) ∧ (2 ≤ S.2.1 → 1 ≤ S.1.1 4 ∧ (∀ k, k < S.1.1 4 - 1 → S.1.2 5 k < S.1.2 7 k ∧ S.1.2 7 k ≤ w) ∧ S.1.2 5 (S.1.1 4 - 1) < w)
theorem FW.same {d0 n0 w : Nat} {S S2 : SA} (h : FW d0 n0 S w) (k : Ke S.1 S2.1) (e : S.2.1 ≤ 1 ↔ S2.2.1 ≤ 1) : FW d0 n0 S2 (w + 1) := by
  obtain ⟨k1, k2, k3, k4, k5⟩ := k
  obtain ⟨h1, h2, h3, h4⟩ := h
  unfold FW
  rw [k1, k2, k3, k4, k5]
  refine ⟨h1, h2, fun q i hi => ?_, fun q => ?_⟩
  · have := h3 (e.mpr q) i hi; omega
  · obtain ⟨g1, g2, g3⟩ := h4 (by omega)
    exact ⟨g1, fun i hi => by have := g2 i hi; omega, by omega⟩
theorem ta_fw {d0 n0 w : Nat} {S S2 : SA} {t : Int32} (h : FW d0 n0 S w) (e : ta S w t = some S2) : FW d0 n0 S2 (w + 1) := by
  obtain ⟨E, aw, ar, rel, nw, L⟩ := S
  have bg : ∀ hh, aw ≤ 1 → FW d0 n0 (bgR E w hh, 2, ar, rel, hh, L) (w + 1) := by
    intro hh ha
    obtain ⟨h1, h2, h3, h4⟩ := h
    refine ⟨by simp [bgR, setS, setR]; exact h1, by simp [bgR, setS, setR]; exact h2, fun q => by simp at q, fun _ => ⟨by simp [bgR, setS], fun k hk => ?_, by simp [bgR, setS, setR]⟩⟩
    have e4 : (bgR E w hh).1 4 - 1 = E.1 4 := by simp [bgR, setS]
    simp only [e4] at hk
    have hk2 : ¬ k = E.1 4 := by omega
    have := h3 ha k hk
    simp only [bgR, setS, setR]
    simp [hk2]
    simp only at this
    omega
  unfold ta at e
  simp only at e
  by_cases a0 : aw = 0
  · rw [if_pos a0] at e
    by_cases c1 : t = -1
    · rw [if_pos c1] at e
      by_cases c2 : E.1 3 < 8
      · rw [if_pos c2] at e
        cases e
        exact h.same ⟨by simp [bgT, setS, setR], by simp [bgT, setS, setR], by simp [bgT, setS, setR], by simp [bgT, setS, setR], by simp [bgT, setS, setR]⟩ (by simp [a0])
      · rw [if_neg c2] at e; cases e
    · rw [if_neg c1] at e
      by_cases c3 : t = -3
      · rw [if_pos c3] at e
        by_cases c2 : E.1 4 < 12
        · rw [if_pos c2] at e; cases e; exact bg 1 (by omega)
        · rw [if_neg c2] at e; cases e
      · rw [if_neg c3] at e
        by_cases c4 : t = -2
        · rw [if_pos c4] at e
          by_cases c2 : E.1 4 < 12
          · rw [if_pos c2] at e; cases e; exact bg 0 (by omega)
          · rw [if_neg c2] at e; cases e
        · rw [if_neg c4] at e; cases e
  · rw [if_neg a0] at e
    by_cases a1 : aw = 1
    · rw [if_pos a1] at e
      by_cases c1 : t = -19
      · rw [if_pos c1] at e
        by_cases c2 : 0 < E.2 3 (E.1 3 - 1)
        · rw [if_pos c2] at e; cases e; exact h.same (Ke.refl E) (by simp [a1])
        · rw [if_neg c2] at e; cases e
      · rw [if_neg c1] at e
        by_cases c2 : 0 ≤ t
        · rw [if_pos c2] at e
          by_cases c3 : E.2 3 (E.1 3 - 1) < 10
          · rw [if_pos c3] at e
            cases e
            exact h.same ⟨rfl, rfl, rfl, by simp [adN, setR], by simp [adN, setR]⟩ (by simp [a1])
          · rw [if_neg c3] at e; cases e
        · rw [if_neg c2] at e; cases e
    · rw [if_neg a1] at e
      by_cases a2 : aw = 2
      · rw [if_pos a2] at e
        by_cases c0 : 12 < ar
        · rw [if_pos c0] at e; cases e
        · rw [if_neg c0] at e
          by_cases c1 : 0 ≤ t
          · rw [if_pos c1] at e
            cases e
            exact h.same ((emt_ke E _ _).trans (enA_ke _ _ _ _ _)) (by simp [a2, enA])
          · rw [if_neg c1] at e
            by_cases c2 : t = -6
            · rw [if_pos c2] at e; cases e; exact h.same (Ke.refl E) (by simp [a2])
            · rw [if_neg c2] at e
              by_cases c3 : t = -7
              · rw [if_pos c3] at e; cases e; exact h.same (Ke.refl E) (by simp [a2])
              · rw [if_neg c3] at e
                by_cases c4 : t = -8
                · rw [if_pos c4] at e; cases e; exact h.same (Ke.refl E) (by simp [a2])
                · rw [if_neg c4] at e; cases e
      · rw [if_neg a2] at e
        by_cases a3 : aw = 3
        · rw [if_pos a3] at e
          by_cases c1 : 0 ≤ t ∧ t < 20
          · rw [if_pos c1] at e
            cases e
            exact h.same ((emt_ke E _ _).trans (enA_ke _ _ _ _ _)) (by simp [a3, enA])
          · rw [if_neg c1] at e; cases e
        · rw [if_neg a3] at e
          by_cases a4 : aw = 4
          · rw [if_pos a4] at e
            by_cases c1 : 0 ≤ t ∧ t < nI (E.1 3)
            · rw [if_pos c1] at e; cases e; exact h.same (Ke.refl E) (by simp [a4])
            · rw [if_neg c1] at e; cases e
          · rw [if_neg a4] at e
            have a5 : ¬ aw ≤ 1 := by omega
            unfold tb at e
            by_cases c1 : opk t ≠ 0
            · rw [if_pos c1] at e
              cases e
              exact h.same (stl_ke _ _ _ _) (by simp [a5])
            · rw [if_neg c1] at e
              by_cases c2 : 0 < ar
              · rw [if_pos c2] at e
                by_cases c3 : t = -9
                · rw [if_pos c3] at e
                  have hk := stl_ke 1 L E ar
                  revert e
                  cases hq : (stl 1 L E ar).1 with
                  | nil => intro e; cases e
                  | cons x L2 =>
                    intro e
                    simp only at e
                    by_cases c4 : x.1 = 3
                    · rw [if_pos c4] at e
                      cases e
                      exact h.same (hk.trans (enA_ke _ _ _ _ _)) (by simp [a5, enA])
                    · rw [if_neg c4] at e; cases e
                · rw [if_neg c3] at e; cases e
              · rw [if_neg c2] at e
                have hk := stl_ke 1 L E ar
                unfold tbS at e
                by_cases r0 : rel = 0
                · rw [if_pos r0] at e
                  by_cases r1 : rlk t = 0
                  · rw [if_pos r1] at e; cases e
                  · rw [if_neg r1] at e; cases e; exact h.same hk (by simp [a5])
                · rw [if_neg r0] at e
                  have hk2 := hk.trans (emt_ke (stl 1 L E ar).2.1 rel 0)
                  by_cases c5 : t = -5
                  · rw [if_pos c5] at e; cases e; exact h.same hk2 (by simp [a5])
                  · rw [if_neg c5] at e
                    by_cases c6 : nw = 1
                    · rw [if_pos c6] at e
                      by_cases c7 : t = -4
                      · rw [if_pos c7] at e
                        cases e
                        exact h.same (hk2.trans ⟨rfl, rfl, rfl, by simp [bgN, setR], by simp [bgN, setR]⟩) (by simp [a5])
                      · rw [if_neg c7] at e; cases e
                    · rw [if_neg c6] at e
                      by_cases c7 : t = -19
                      · rw [if_pos c7] at e
                        cases e
                        obtain ⟨h1, h2, h3, h4⟩ := h
                        obtain ⟨k1, k2, k3, k4, k5⟩ := hk2
                        obtain ⟨E3, hE3⟩ : ∃ x, x = emt (stl 1 L E ar).2.1 rel 0 := ⟨_, rfl⟩
                        rw [← hE3] at k1 k2 k3 k4 k5 ⊢
                        obtain ⟨g1, g2, g3⟩ := h4 (by simp only; omega)
                        simp only at h1 h2 g1 g2 g3 k1 k2 k3 k4 k5
                        obtain ⟨x1, x2, x3, x4, x5⟩ := edR_ext (E := E3) (r := E.1 4 - 1) (w := w) (by omega)
                        refine ⟨by simp only [x1]; omega, by simp only [x1]; omega, fun _ k hk => ?_, fun q => by simp at q⟩
                        simp only [x1, k3] at hk ⊢
                        rw [x2 5 (by decide) (by decide), k4]
                        by_cases ck : k = E.1 4 - 1
                        · subst ck
                          rw [x3]
                          omega
                        · rw [(x5 k ck).1, k5]
                          have := g2 k (by omega)
                          omega
                      · rw [if_neg c7] at e; cases e
theorem run_fw {d0 n0 : Nat} {tok : Nat → Int32} : ∀ (d w : Nat) (S S2 : SA), FW d0 n0 S w → run tok d w S = .inr S2 → FW d0 n0 S2 (w + d) ∧ S2.2.1 = 0 := by
  intro d
  induction d with
  | zero =>
    intro w S S2 h e
    simp only [run] at e
    by_cases c : S.2.1 = 0
    · rw [if_pos c] at e; cases e; exact ⟨h, c⟩
    · rw [if_neg c] at e; cases e
  | succ d ih =>
    intro w S S2 h e
    simp only [run] at e
    cases hq : ta S w (tok w) with
    | none => rw [hq] at e; cases e
    | some S3 =>
      rw [hq] at e
      have := ih (w + 1) S3 S2 (ta_fw h hq) e
      rw [show w + (d + 1) = w + 1 + d by omega]
      exact this
theorem run_congr {t1 t2 : Nat → Int32} : ∀ (d w : Nat) (S : SA), (∀ i, w ≤ i → i < w + d → t1 i = t2 i) → run t1 d w S = run t2 d w S := by
  intro d
  induction d with
  | zero => intro w S _; rfl
  | succ d ih =>
    intro w S h
    simp only [run]
    rw [h w (Nat.le_refl _) (by omega)]
    cases ta S w (t2 w) with
    | none => rfl
    | some S2 => exact ih (w + 1) S2 (fun i h1 h2 => h i (by omega) (by omega))
/-! TOKENS OF ROWS THAT AGREE -/
theorem wpre_congr {f g : Nat → Int32} : ∀ {l : List Nat} {b : Nat}, (∀ i, b ≤ i → i < b + l.length → f i = g i) → wpre f b l = wpre g b l := by
  intro l
  induction l with
  | nil => intro b _; rfl
  | cons c l ih =>
    intro b h
    simp only [wpre, List.length_cons] at h ⊢
    rw [h b (Nat.le_refl _) (by omega), ih (fun i h1 h2 => h i (by omega) (by omega))]
theorem digs_congr {f g : Nat → Int32} {b : Nat} : ∀ {n : Nat}, (∀ i, b ≤ i → i < b + n → f i = g i) → digs f b n = digs g b n ∧ numv f b n = numv g b n := by
  intro n
  induction n with
  | zero => intro _; exact ⟨rfl, rfl⟩
  | succ n ih =>
    intro h
    obtain ⟨i1, i2⟩ := ih (fun i h1 h2 => h i h1 (by omega))
    simp only [digs, numv]
    rw [i1, i2, h (b + n) (by omega) (by omega)]
    exact ⟨rfl, rfl⟩
theorem tk_congr {f g : Nat → Int32} {b e : Nat} (h : ∀ i, b ≤ i → i < e → f i = g i) : tk f b e = tk g b e := by
  obtain ⟨h1, h2⟩ := digs_congr (f := f) (g := g) (b := b) (n := e - b) (fun i q1 q2 => h i q1 (by omega))
  have h3 : ∀ l, wis f b e l = wis g b e l := by
    intro l
    unfold wis
    by_cases c : e - b = l.length
    · rw [wpre_congr (fun i q1 q2 => h i q1 (by omega))]
    · simp [c]
  unfold tk isnum
  rw [h1, h2]
  simp only [h3]
