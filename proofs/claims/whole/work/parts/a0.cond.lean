section COND
variable {F : Nat} {e W tc : Nat} {tok : Nat → Int32}
theorem sum_eq (htok : ∀ i, i < W → 0 ≤ tok i → ∃ v : Nat, v < 1000000000 ∧ tok i = nI v) (hF : 900 < F) {m : MS} {E : Ed} {rel nw w : Nat} (hwW : w ≤ W) (hx : Fx m e W tok tc) (hq : Q m e E w) (htc : E.1 3 = tc) (hwf : WFS (E, 2, 0, rel, nw, []) w) : ∃ m2, N_Mo_sum F m = some m2 ∧ SumR m m2 e W tok E rel nw w (run tok (W - w) w (E, 2, 0, rel, nw, [])) := by
  have hW4 := hx.2.2.2.1
  obtain ⟨m2, x, y⟩ := (sum_main (F := F) (tc := tc) (rel := rel) (nw := nw) htok hF (W - w)).1 w F m E 0 [] hwW (Nat.le_refl _) (by omega) hx hq trivial htc hwf
  exact ⟨m2, x, y⟩
theorem rl_c (t : Int32) : (rlk t = 0 → (-15 : Int32) < t ∨ t < (-18 : Int32)) ∧ (rlk t ≠ 0 → ¬ (-15 : Int32) < t ∧ ¬ t < (-18 : Int32)) := by
  constructor
  · intro h
    apply Classical.byContradiction
    intro q
    have c1 : ¬ (-15 : Int32) < t := fun q2 => q (Or.inl q2)
    have c2 : ¬ t < (-18 : Int32) := fun q2 => q (Or.inr q2)
    rw [Int32.lt_iff_toInt_lt] at c1 c2
    have e1 : (-15 : Int32).toInt = -15 := by decide
    have e2 : (-18 : Int32).toInt = -18 := by decide
    rw [e1] at c1
    rw [e2] at c2
    have hc : t.toInt = -15 ∨ t.toInt = -16 ∨ t.toInt = -17 ∨ t.toInt = -18 := by omega
    rcases hc with q | q | q | q
    · rw [i32_of t _ q (-15) (by decide)] at h; exact absurd h (by decide)
    · rw [i32_of t _ q (-16) (by decide)] at h; exact absurd h (by decide)
    · rw [i32_of t _ q (-17) (by decide)] at h; exact absurd h (by decide)
    · rw [i32_of t _ q (-18) (by decide)] at h; exact absurd h (by decide)
  · intro h
    obtain ⟨h1, h2, h3⟩ := (rlk_t t).resolve_left h
    have : rlk t = 9 ∨ rlk t = 10 ∨ rlk t = 11 ∨ rlk t = 12 := by omega
    rcases this with q | q | q | q <;> rw [q] at h3 <;> rw [h3] <;> decide
/-- how conditions end -/
def CondR (m m2 : MS) (e W : Nat) (tok : Nat → Int32) (E : Ed) (nw w : Nat) (R : Nat ⊕ SA) : Prop :=
  FrY e m m2 ∧ ((∃ j, j ≤ W ∧ m2.1 24 = nI j ∧ R = .inl j) ∨ ∃ w2 E1 rel, w ≤ w2 ∧ w2 ≤ W ∧ 9 ≤ rel ∧ rel ≤ 12 ∧ Q m2 e (emt E1 rel 0) w2 ∧ opk (tw tok W w2) = 0 ∧ tw tok W w2 ≠ -5 ∧ WFS (E1, 5, 0, rel, nw, []) w2 ∧ Ext E (emt E1 rel 0) ∧ R = run tok (W - w2) w2 (E1, 5, 0, rel, nw, []))
theorem CondR.pre {m m1 m2 : MS} {E E1 : Ed} {nw w w1 : Nat} {R : Nat ⊕ SA} (f : FrY e m m1) (x : Ext E E1) (hw : w ≤ w1) (h : CondR m1 m2 e W tok E1 nw w1 R) : CondR m m2 e W tok E nw w R := by
  refine ⟨f.trans h.1, ?_⟩
  rcases h.2 with q | ⟨w2, E2, rel, q1, q2, q3, q4, q5, q6, q7, q8, q9, q10⟩
  · exact Or.inl q
  · exact Or.inr ⟨w2, E2, rel, by omega, q2, q3, q4, q5, q6, q7, q8, x.trans q9, q10⟩
/-- with a wrong word all ends -/
theorem cond_bad {m : MS} {z j : Nat} (h : m.1 24 = nI j) (hj : j ≤ 400) (hz : 0 < z) : N_Mo_conditions_80 F (N_Mo_conditions_2 F z) m = some (sPut m 23 (m.1 23 + 0)) := by
  obtain ⟨z, rfl⟩ : ∃ y, z = y + 1 := ⟨z - 1, by omega⟩
  have h0 : 0 ≤ nI j := nI_pos' (by omega)
  simp [N_Mo_conditions_80, h, h0, N_Mo_conditions_100, N_Mo_conditions_101, N_Mo_conditions_116, N_Mo_conditions_2, BN_Mo_conditions_2]
theorem FrY.p23' (e : Nat) (m : MS) (v : Int32) : FrY e m (sPut m 23 v) ∧ (sPut m 23 v).1 24 = m.1 24 := ⟨FrY.p23 e m v, by simp [sPut, upd]⟩
theorem cond_step (htok : ∀ i, i < W → 0 ≤ tok i → ∃ v : Nat, v < 1000000000 ∧ tok i = nI v) (hF : 900 < F) {nw : Nat} (w z : Nat) (m : MS) (E : Ed) (hwW : w ≤ W) (hz : W - w + 1 < z) (hx : Fx m e W tok tc) (hq : Q m e E w) (htc : E.1 3 = tc) (hwf : WFS (E, 2, 0, 0, nw, []) w)
    (ih : ∀ (w2 z2 : Nat) (m2 : MS) (E2 : Ed), w < w2 → w2 ≤ W → W - w2 + 1 < z2 → Fx m2 e W tok tc → Q m2 e E2 w2 → E2.1 3 = tc → WFS (E2, 2, 0, 0, nw, []) w2 → ∃ m3, N_Mo_conditions_2 F z2 m2 1 = some m3 ∧ CondR m2 m3 e W tok E2 nw w2 (run tok (W - w2) w2 (E2, 2, 0, 0, nw, []))) :
    ∃ m2, N_Mo_conditions_2 F z m 1 = some m2 ∧ CondR m m2 e W tok E nw w (run tok (W - w) w (E, 2, 0, 0, nw, [])) := by
  obtain ⟨z, rfl⟩ : ∃ y, z = y + 1 := ⟨z - 1, by omega⟩
  have hW4 := hx.2.2.2.1
  obtain ⟨m1, x1, f1, y1⟩ := sum_eq (F := F) htok hF hwW hx hq htc hwf
  have n0 : ¬ (0 : Int32) ≤ -1 := by decide
  have hx1 := hx.fr f1
  have pre : N_Mo_conditions_2 F (z + 1) m 1 = ((N_Mo_now F m1).bind fun q5 => if 0 ≤ (q5.2.1 24) then N_Mo_conditions_80 F (N_Mo_conditions_2 F z) q5.2 else if (-15) < q5.1 then N_Mo_conditions_46 F (N_Mo_conditions_2 F z) q5.2 q5.1 else if q5.1 < (-18) then N_Mo_conditions_46 F (N_Mo_conditions_2 F z) q5.2 q5.1 else N_Mo_conditions_47 F (N_Mo_conditions_2 F z) q5.2 q5.1 1) := by
    show BN_Mo_conditions_2 F (N_Mo_conditions_2 F z) m 1 = _
    unfold BN_Mo_conditions_2
    rw [if_neg (by decide), hq.2.2.1, if_neg n0, x1, Option.bind_some]
  rw [pre]
  rcases y1 with ⟨j, hj, hj2, hj3, hj4⟩ | ⟨w2, E2, q1, q2, q3, q4, q5, q6, q7⟩
  · have h0 : 0 ≤ nI j := nI_pos' (by omega)
    have cb := cond_bad (F := F) (z := z) hj2 (by omega) (by omega)
    refine ⟨sPut m1 23 (m1.1 23 + 0), ?_, f1.trans (FrY.p23 e _ _), Or.inl ⟨j, hj, by simp [sPut, upd]; exact hj2, hj4⟩⟩
    rw [now_eq (F := F) hx1 hj3 (by omega), Option.bind_some]
    simp only [hj2, h0, if_true]
    exact cb
  · have en := now_eq (F := F) hx1 q3.2.1 (by omega)
    have hp := hwf
    rw [en, Option.bind_some]
    simp only [q3.2.2.1, n0, if_false]
    rw [q7]
    by_cases hr : rlk (tw tok W w2) = 0
    · -- no relation
      have w0 := want_0 (F := F) q3.2.2.1 q3.2.1 (by omega)
      have cb := cond_bad (F := F) (m := sPut m1 24 (nI w2)) (j := w2) (z := z) (by simp [sPut, upd]) (by omega) (by omega)
      have e46 : N_Mo_conditions_46 F (N_Mo_conditions_2 F z) m1 (tw tok W w2) = some (sPut (sPut m1 24 (nI w2)) 23 ((sPut m1 24 (nI w2)).1 23 + 0)) := by
        unfold N_Mo_conditions_46 N_Mo_conditions_47
        rw [w0, Option.bind_some, if_pos rfl]
        exact cb
      refine ⟨sPut (sPut m1 24 (nI w2)) 23 ((sPut m1 24 (nI w2)).1 23 + 0), ?_, (f1.trans (FrY.p24 e m1 (nI w2))).trans (FrY.p23 e _ _), Or.inl ⟨w2, q2, by simp [sPut, upd], ?_⟩⟩
      · rcases (rl_c (tw tok W w2)).1 hr with h | h
        · rw [if_pos h]; exact e46
        · by_cases h1 : (-15 : Int32) < tw tok W w2
          · rw [if_pos h1]; exact e46
          · rw [if_neg h1, if_pos h]; exact e46
      · by_cases cw : w2 < W
        · apply run_bad cw
          unfold tw at q4 hr
          rw [if_pos cw] at q4 hr
          show tb E2 0 0 nw [] w2 (tok w2) = none
          unfold tb
          rw [if_neg (by rw [q4]; simp), if_neg (by omega)]
          simp [tbS, stl, hr]
        · exact run_end (by omega) (by simp)
    · obtain ⟨hn1, hn2⟩ := (rl_c (tw tok W w2)).2 hr
      rw [if_neg hn1, if_neg hn2]
      obtain ⟨r1, r2, r3⟩ := (rlk_t (tw tok W w2)).resolve_left hr
      have cw : w2 < W := by
        apply Classical.byContradiction
        intro q
        apply hr
        unfold tw
        rw [if_neg q]
        decide
      have etw : tw tok W w2 = tok w2 := by unfold tw; rw [if_pos cw]
      have w1 := want_1 (F := F) q3.2.2.1 (x := 1) (by decide)
      have htc2 : E2.1 3 = tc := (q6.1 3 (by decide)).trans htc
      have eta : ta (E2, 5, 0, 0, nw, []) w2 (tok w2) = some (E2, 2, 0, rlk (tok w2), nw, []) := by
        rw [etw] at q4 hr
        show tb E2 0 0 nw [] w2 (tok w2) = _
        unfold tb
        rw [if_neg (by rw [q4]; simp), if_neg (by omega)]
        simp [tbS, stl, hr]
      have hneg : ¬ 0 ≤ tok w2 := by
        intro q
        rw [← etw, r3] at q
        have : rlk (tw tok W w2) = 9 ∨ rlk (tw tok W w2) = 10 ∨ rlk (tw tok W w2) = 11 ∨ rlk (tw tok W w2) = 12 := by omega
        rcases this with h | h | h | h <;> rw [h] at q <;> exact absurd q (by decide)
      have hwf2 := ta_wf (fun q => absurd q hneg) q5 eta
      have e23 : sPut m1 23 (m1.1 23 + 1) = sPut m1 23 (nI (w2 + 1)) := by rw [q3.2.1, nI_1]
      have f2 := FrY.p23 e m1 (nI (w2 + 1))
      have hx2 := hx1.fr f2
      obtain ⟨m3, x3, f3, y3⟩ := sum_eq (F := F) htok hF (w := w2 + 1) (by omega) hx2 q3.adv htc2 hwf2
      have pre2 : N_Mo_conditions_47 F (N_Mo_conditions_2 F z) m1 (tw tok W w2) 1 = if 0 ≤ (m3.1 24) then N_Mo_conditions_80 F (N_Mo_conditions_2 F z) m3 else ((N_Mo_put F m3 (tw tok W w2) 0).bind fun q9 => N_Mo_conditions_80 F (N_Mo_conditions_2 F z) q9) := by
        unfold N_Mo_conditions_47
        rw [w1, Option.bind_some, if_neg (show ¬ (1 : Int32) = 0 by decide), e23, Option.bind_some, x3, Option.bind_some]
      rw [pre2, run_step cw eta]
      have f123 := (f1.trans f2).trans f3
      have hx3 := hx2.fr f3
      rcases y3 with ⟨j, hj, hj2, hj3, hj4⟩ | ⟨w4, E4, p1, p2, p3, p4, p5, p6, p7⟩
      · have h0 : 0 ≤ nI j := nI_pos' (by omega)
        have cb := cond_bad (F := F) (z := z) hj2 (by omega) (by omega)
        refine ⟨sPut m3 23 (m3.1 23 + 0), ?_, f123.trans (FrY.p23 e _ _), Or.inl ⟨j, hj, by simp [sPut, upd]; exact hj2, hj4⟩⟩
        rw [hj2, if_pos h0]
        exact cb
      · rw [p3.2.2.1, if_neg n0]
        rw [← etw] at p5 p7 hwf2
        have h400 : E4.1 2 < 400 := by
          have := p5.1
          simp only [List.length_nil] at this
          rw [if_neg hr] at this
          omega
        obtain ⟨m5, x5, f5, q5', g1, g2⟩ := put_eq (F := F) hx3 p3 h400 (rlk (tw tok W w2)) 0 (x := tw tok W w2) (y := 0) r3 (fun q => by omega)
        rw [x5, Option.bind_some]
        have hx5 := hx3.fr f5
        have f5' := f123.trans f5
        have en5 := now_eq (F := F) hx5 q5'.2.1 (by omega)
        have hext : Ext E (emt E4 (rlk (tw tok W w2)) 0) := (q6.trans p6).trans (emt_ext _ _ _)
        rw [← etw, p7]
        by_cases ca : tw tok W w4 = -5
        · -- and
          have cw4 : w4 < W := by
            apply Classical.byContradiction
            intro q
            unfold tw at ca
            rw [if_neg q] at ca
            exact absurd ca (by decide)
          have etw4 : tw tok W w4 = tok w4 := by unfold tw; rw [if_pos cw4]
          have eta4 : ta (E4, 5, 0, rlk (tw tok W w2), nw, []) w4 (tok w4) = some (emt E4 (rlk (tw tok W w2)) 0, 2, 0, 0, nw, []) := by
            rw [etw4] at ca p4
            show tb E4 0 (rlk (tw tok W w2)) nw [] w4 (tok w4) = _
            unfold tb
            rw [if_neg (by rw [p4]; simp), if_neg (by omega)]
            simp [tbS, stl, hr, ca]
          have hneg4 : ¬ 0 ≤ tok w4 := by rw [← etw4, ca]; decide
          have hwf4 := ta_wf (fun q => absurd q hneg4) p5 eta4
          have f6 := FrY.p23 e m5 (nI (w4 + 1))
          obtain ⟨m7, x7, y7⟩ := ih (w4 + 1) z (sPut m5 23 (nI (w4 + 1))) (emt E4 (rlk (tw tok W w2)) 0) (by omega) (by omega) (by omega) (hx5.fr f6) q5'.adv (((emt_ext E4 _ 0).1 3 (by decide)).trans ((p6.1 3 (by decide)).trans htc2)) hwf4
          refine ⟨m7, ?_, ?_⟩
          · unfold N_Mo_conditions_80 N_Mo_conditions_101 N_Mo_conditions_116
            rw [q5'.2.2.1, if_neg n0, en5, Option.bind_some]
            simp only [ca, if_true]
            rw [if_neg (show ¬ (1 : Int32) = 0 by decide), q5'.2.1, nI_1, Option.bind_some]
            exact x7
          · rw [run_step cw4 eta4]
            exact CondR.pre (f5'.trans f6) hext (by omega) y7
        · have hend : N_Mo_conditions_80 F (N_Mo_conditions_2 F z) m5 = some (sPut m5 23 (nI w4)) := by
            obtain ⟨z, rfl⟩ : ∃ y, z = y + 1 := ⟨z - 1, by omega⟩
            have e0 : nI w4 + 0 = nI w4 := Int32.add_zero _
            unfold N_Mo_conditions_80 N_Mo_conditions_100 N_Mo_conditions_101 N_Mo_conditions_116
            rw [q5'.2.2.1, if_neg n0, en5, Option.bind_some]
            simp only [ca, if_false]
            rw [if_pos trivial, q5'.2.1, e0, Option.bind_some]
            show BN_Mo_conditions_2 F _ _ 0 = _
            unfold BN_Mo_conditions_2
            rw [if_pos rfl]
          refine ⟨sPut m5 23 (nI w4), hend, f5'.trans (FrY.p23 e _ _), Or.inr ⟨w4, E4, rlk (tw tok W w2), by omega, p2, r1, r2, q5'.adv, p4, ca, p5, hext, rfl⟩⟩
theorem cond_main (htok : ∀ i, i < W → 0 ≤ tok i → ∃ v : Nat, v < 1000000000 ∧ tok i = nI v) (hF : 900 < F) {nw : Nat} : ∀ (D w z : Nat) (m : MS) (E : Ed), w ≤ W → W - w ≤ D → W - w + 1 < z → Fx m e W tok tc → Q m e E w → E.1 3 = tc → WFS (E, 2, 0, 0, nw, []) w →
    ∃ m2, N_Mo_conditions_2 F z m 1 = some m2 ∧ CondR m m2 e W tok E nw w (run tok (W - w) w (E, 2, 0, 0, nw, [])) := by
  intro D
  induction D with
  | zero =>
    intro w z m E hwW hD hz hx hq htc hwf
    exact cond_step htok hF w z m E hwW hz hx hq htc hwf (fun w2 z2 m2 E2 h1 h2 => by omega)
  | succ D ih =>
    intro w z m E hwW hD hz hx hq htc hwf
    exact cond_step htok hF w z m E hwW hz hx hq htc hwf (fun w2 z2 m2 E2 h1 h2 h3 => ih w2 z2 m2 E2 h2 (by omega) h3)
end COND
