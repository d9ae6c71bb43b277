section SUMMAIN
variable {F : Nat} {e W tc : Nat} {tok : Nat → Int32} {rel nw : Nat}
/-- the waiting signs, one more -/
theorem Sg.push {m : MS} {L : List (Nat × Nat)} (h : Sg m L) (k v : Nat) (x : Int32) (hx : x = rk k) (hk : k ≠ 2) : Sg (sStI m 25 L.length x) ((k, v) :: L) := by
  refine ⟨by simp [sStI, upd, hx], fun q => absurd q hk, ?_⟩
  refine Sg.up (n := L.length) (m := m) (fun i hi => ?_) (fun i hi => ?_) (Nat.le_refl _) h
  · have : ¬ i = L.length := by omega
    simp [sStI, upd, this]
  · simp [sStI]
theorem FrY.sg (e : Nat) (m : MS) (i : Nat) (x : Int32) : FrY e m (sStI m 25 i x) := ⟨⟨fun _ _ => rfl, fun k hk => by simp at hk; simp [sStI, hk], fun _ _ => rfl⟩, fun _ _ => by simp [sStI]⟩
theorem FrY.sv (e : Nat) (m : MS) (i : Nat) (x : Int32) : FrY e m (sStI m 26 i x) := ⟨⟨fun _ _ => rfl, fun k hk => by simp at hk; simp [sStI, hk], fun _ _ => rfl⟩, fun _ _ => by simp [sStI]⟩
theorem Q.sg {m : MS} {E : Ed} {w : Nat} (h : Q m e E w) (i : Nat) (x : Int32) : Q (sStI m 25 i x) e E w := ⟨h.1, h.2.1, h.2.2.1, fun j hj => by simp only [sStI]; exact h.2.2.2 j hj⟩
theorem Q.sv {m : MS} {E : Ed} {w : Nat} (h : Q m e E w) (i : Nat) (x : Int32) : Q (sStI m 26 i x) e E w := ⟨h.1, h.2.1, h.2.2.1, fun j hj => by simp only [sStI]; exact h.2.2.2 j hj⟩
/-- the end of a sum -/
theorem sum_end {E : Ed} {ar w z : Nat} {L : List (Nat × Nat)} {m : MS} {x2 : Int32} (hx : Fx m e W tok tc) (hq : Q m e E w) (hs : Sg m L) (hw : WFS (E, 5, ar, rel, nw, L) w) (htc : E.1 3 = tc) (hwW : w ≤ W) (hF : 900 < F) (hz : 0 < z) (ho : opk (tw tok W w) = 0) (hc : 0 < nBr L → tw tok W w ≠ -9) : ∃ m2, N_Mo_sum_9 F z m (nI L.length) x2 (nI (nBr L)) 0 = some m2 ∧ SumR m m2 e W tok E rel nw w (run tok (W - w) w (E, 5, ar, rel, nw, L)) := by
  obtain ⟨z, rfl⟩ : ∃ y, z = y + 1 := ⟨z - 1, by omega⟩
  have hW4 := hx.2.2.2.1
  obtain ⟨hb, hw2 | hw2⟩ := id hw
  · have := hw2.1; simp at this
  · obtain ⟨-, -, hF1, hR, hL, hd2, ha, ha13, ha12, hrel, hnw, hh⟩ := hw2
    simp only at hb hF1 hR hL hd2 ha ha13 ha12 hrel hnw hh
    have hd2 := hd2 trivial
    rw [htc] at hL
    have hbl := nBr_le (L := L)
    have hlen : L.length ≤ 400 := by omega
    have hpos := nBr_pos hL hd2
    show ∃ m2, BN_Mo_sum_9 F (N_Mo_sum_9 F z) m (nI L.length) x2 (nI (nBr L)) 0 = some m2 ∧ _
    unfold BN_Mo_sum_9 N_Mo_sum_468 N_Mo_sum_478
    rw [if_pos rfl]
    by_cases c : nBr L = 0
    · have hn0 : nAr L = 0 := by
        apply Classical.byContradiction
        intro q
        have := hpos.mpr (by omega)
        omega
      have har : ar = 0 := by omega
      subst har
      have c' : nI (nBr L) = 0 := by rw [c]; rfl
      rw [if_pos c', want_1 hq.2.2.1 (by decide), Option.bind_some]
      obtain ⟨m2, x1, y1, y2, y3, y4⟩ := pop_all (F := F) (ar := 0) L E F m hx hq hs hL hd2 hn0 (by omega) (by omega)
      refine ⟨m2, ?_, y3, Or.inr ⟨w, (stl 1 L E 0).2.1, Nat.le_refl _, hwW, y4, ho, ?_, ?_, run_settled ho y1 y2⟩⟩
      · simp [x1]
      · have hr1 : (if rel = 0 then 0 else 1) ≤ 1 := by split <;> omega
        simp only [if_true] at hh
        obtain ⟨i1, i2, i3, i4, i5, i6, i7, i8⟩ := stl_ok (tc := tc) (rho := if rel = 0 then 0 else 1) (r := 1) (by decide) (L := L) (E := E) (ar := 0) hL hF1.2.2.2.1 htc ha (by omega) hr1 hh
        rw [y1] at i6 i7
        have e4 := i2.1 4 (by decide)
        refine ⟨by simp only [List.length_nil] at i7 ⊢; omega, Or.inr ⟨by simp, by simp, by rw [e4]; exact hF1.ext i2 i1, hR.ext i2, trivial, fun _ => by simp [hd], rfl, by simp, fun _ => by simp, hrel, hnw, by simp only [if_true]; exact i6⟩⟩
      · have hr1 : (if rel = 0 then 0 else 1) ≤ 1 := by split <;> omega
        simp only [if_true] at hh
        exact (stl_ok (tc := tc) (rho := if rel = 0 then 0 else 1) (r := 1) (by decide) (L := L) (E := E) (ar := 0) hL hF1.2.2.2.1 htc ha (by omega) hr1 hh).2.1
    · have c' : ¬ nI (nBr L) = 0 := nI_ne0 (by omega) (by omega)
      rw [if_neg c', want_0 hq.2.2.1 hq.2.1 (by omega), Option.bind_some]
      refine ⟨sPut m 24 (nI w), by simp, FrY.p24 e m _, Or.inl ⟨w, hwW, by simp [sPut, upd], by simp [sPut, upd]; exact hq.2.1, ?_⟩⟩
      by_cases cw : w < W
      · apply run_bad cw
        unfold tw at ho hc
        rw [if_pos cw] at ho
        have hc := hc (by omega)
        rw [if_pos cw] at hc
        have hap : 0 < ar := by rw [ha]; exact hpos.mp (by omega)
        show tb E ar rel nw L w (tok w) = none
        unfold tb
        rw [if_neg (by rw [ho]; simp), if_pos hap, if_neg hc]
      · exact run_end (by omega) (by simp)
theorem sum_main (htok : ∀ i, i < W → 0 ≤ tok i → ∃ v : Nat, v < 1000000000 ∧ tok i = nI v) (hF : 900 < F) : ∀ (D : Nat),
    (∀ (w z : Nat) (m : MS) (E : Ed) (ar : Nat) (L : List (Nat × Nat)), w ≤ W → W - w ≤ D → W - w + 1 < z → Fx m e W tok tc → Q m e E w → Sg m L → E.1 3 = tc → WFS (E, 2, ar, rel, nw, L) w → ∃ m2, N_Mo_sum_9 F z m (nI L.length) (nI ar) (nI (nBr L)) 1 = some m2 ∧ SumR m m2 e W tok E rel nw w (run tok (W - w) w (E, 2, ar, rel, nw, L))) ∧
    (∀ (w z5 z9 : Nat) (m : MS) (E : Ed) (ar : Nat) (L : List (Nat × Nat)), w ≤ W → W - w ≤ D → W - w + 2 < z5 → W - w + 1 < z9 → Fx m e W tok tc → Q m e E w → Sg m L → E.1 3 = tc → wa tc L → ar = nAr L → ar ≤ 12 → E.1 2 + L.length ≤ 400 → WFS (enA E ar rel nw L) w → Ext E (stl 3 L E ar).2.1 → ∃ m2, N_Mo_sum_249 F (N_Mo_sum_9 F z9) z5 m (nI L.length) (nI ar) (nI (nBr L)) 1 = some m2 ∧ SumR m m2 e W tok E rel nw w (run tok (W - w) w (enA E ar rel nw L))) := by
  intro D
  induction D with
  | zero =>
    constructor
    · intro w z m E ar L hwW hD hz hx hq hs htc hwf
      obtain ⟨z, rfl⟩ : ∃ y, z = y + 1 := ⟨z - 1, by omega⟩
      have hW4 := hx.2.2.2.1
      have ew : w = W := by omega
      have en := now_eq (F := F) hx hq.2.1 (by omega)
      have etw : tw tok W w = -20 := by unfold tw; rw [if_neg (by omega)]
      rw [etw] at en
      refine ⟨sPut m 24 (nI w), ?_, FrY.p24 e m _, Or.inl ⟨w, by omega, by simp [sPut, upd], by simp [sPut, upd]; exact hq.2.1, run_end (by omega) (by simp)⟩⟩
      have n0 : ¬ (0 : Int32) ≤ -1 := by decide
      have w0 := want_0 (F := F) hq.2.2.1 hq.2.1 (by omega)
      show BN_Mo_sum_9 F (N_Mo_sum_9 F z) m (nI L.length) (nI ar) (nI (nBr L)) 1 = _
      unfold BN_Mo_sum_9
      rw [if_neg (by decide), hq.2.2.1, if_neg n0, en, Option.bind_some]
      by_cases c : (12 : Int32) < nI ar
      · simp [c, N_Mo_sum_64, N_Mo_sum_65, w0]
      · simp [c, N_Mo_sum_64, N_Mo_sum_65, w0]
    · intro w z5 z9 m E ar L hwW hD hz5 hz9 hx hq hs htc hL ha ha12 hb hwf hext
      obtain ⟨z5, rfl⟩ : ∃ y, z5 = y + 1 := ⟨z5 - 1, by omega⟩
      obtain ⟨m1, x1, f1, q1, g1⟩ := pop_places (F := F) (r9 := N_Mo_sum_9 F z9) (r249 := N_Mo_sum_249 F (N_Mo_sum_9 F z9) z5) (br := nI (nBr L)) L E ar F m hx hq hs hL ha hb (by omega)
      have hx1 := hx.fr f1
      have hW4 := hx.2.2.2.1
      have en := now_eq (F := F) hx1 q1.2.1 (by omega)
      have etw : tw tok W w = -20 := by unfold tw; rw [if_neg (by omega)]
      have htc1 : (stl 3 L E ar).2.1.1 3 = tc := (hext.1 3 (by decide)).trans htc
      have hbr := nBr_stl (E := E) (ar := ar) hL
      obtain ⟨m2, x2, y2⟩ := sum_end (F := F) (z := z9) (x2 := nI (stl 3 L E ar).2.2) hx1 q1 g1 hwf htc1 hwW hF (by omega) (by rw [etw]; decide) (fun _ => by rw [etw]; decide)
      rw [hbr] at x2
      refine ⟨m2, ?_, SumR.pre f1 hext (Nat.le_refl _) y2⟩
      show BN_Mo_sum_249 F (N_Mo_sum_9 F z9) (N_Mo_sum_249 F (N_Mo_sum_9 F z9) z5) m (nI L.length) (nI ar) (nI (nBr L)) 1 = _
      unfold BN_Mo_sum_249
      rw [if_neg (by decide), x1]
      obtain ⟨z5, rfl⟩ : ∃ y, z5 = y + 1 := ⟨z5 - 1, by omega⟩
      have e0 : N_Mo_sum_249 F (N_Mo_sum_9 F z9) (z5 + 1) m1 (nI (stl 3 L E ar).1.length) (nI (stl 3 L E ar).2.2) (nI (nBr L)) 0 = some m2 := by
        show BN_Mo_sum_249 F (N_Mo_sum_9 F z9) (N_Mo_sum_249 F (N_Mo_sum_9 F z9) z5) m1 _ _ _ 0 = _
        unfold BN_Mo_sum_249 N_Mo_sum_465
        rw [if_pos rfl, en, Option.bind_some, isOp_t, etw]
        exact x2
      have n9 : ¬ (-20 : Int32) = -9 := by decide
      unfold N_Mo_sum_292 N_Mo_sum_309 N_Mo_sum_310
      by_cases c : nI (nBr L) ≤ 0
      · rw [if_pos c, if_pos rfl]; exact e0
      · rw [if_neg c, en, Option.bind_some, etw]
        simp only [n9, if_false]
        exact e0
  | succ D ih =>
    obtain ⟨ih9, ih5⟩ := ih
    constructor
    · intro w z m E ar L hwW hD hz hx hq hs htc hwf
      by_cases hwD : W - w ≤ D
      · exact ih9 w z m E ar L hwW hwD hz hx hq hs htc hwf
      · have hlt : w < W := by omega
        obtain ⟨z, rfl⟩ : ∃ y, z = y + 1 := ⟨z - 1, by omega⟩
        have hW4 := hx.2.2.2.1
        have en := now_eq (F := F) hx hq.2.1 (by omega)
        have etw : tw tok W w = tok w := by unfold tw; rw [if_pos hlt]
        rw [etw] at en
        have n0 : ¬ (0 : Int32) ≤ -1 := by decide
        have w0 := want_0 (F := F) hq.2.2.1 hq.2.1 (by omega)
        have w1 := want_1 (F := F) hq.2.2.1 (x := 1) (by decide)
        obtain ⟨hb, hw2 | hw2⟩ := id hwf
        · have := hw2.1; simp at this
        · obtain ⟨-, -, hF1, hR, hL, hd2, ha, ha13, ha12, hrel, hnw, hh⟩ := hw2
          simp only at hb hF1 hR hL ha ha13 hrel hnw hh
          rw [htc] at hL
          have hbl := nBr_le (L := L)
          have hlen : L.length ≤ 400 := by omega
          have hr1 : (if rel = 0 then 0 else 1) ≤ 1 := by split <;> omega
          have bad : ta (E, 2, ar, rel, nw, L) w (tok w) = none → BN_Mo_sum_9 F (N_Mo_sum_9 F z) m (nI L.length) (nI ar) (nI (nBr L)) 1 = N_Mo_sum_64 F (N_Mo_sum_9 F z) m (nI L.length) (nI ar) (nI (nBr L)) 1 (tok w) → ∃ m2, N_Mo_sum_9 F (z + 1) m (nI L.length) (nI ar) (nI (nBr L)) 1 = some m2 ∧ SumR m m2 e W tok E rel nw w (run tok (W - w) w (E, 2, ar, rel, nw, L)) := by
            intro h1 h2
            refine ⟨sPut m 24 (nI w), ?_, FrY.p24 e m _, Or.inl ⟨w, by omega, by simp [sPut, upd], by simp [sPut, upd]; exact hq.2.1, run_bad hlt h1⟩⟩
            show BN_Mo_sum_9 F (N_Mo_sum_9 F z) m (nI L.length) (nI ar) (nI (nBr L)) 1 = _
            rw [h2]
            simp [N_Mo_sum_64, N_Mo_sum_65, w0]
          have pre64 : (12 < ar ∨ (¬ 0 ≤ tok w ∧ tok w ≠ -6 ∧ tok w ≠ -7 ∧ tok w ≠ -8)) → BN_Mo_sum_9 F (N_Mo_sum_9 F z) m (nI L.length) (nI ar) (nI (nBr L)) 1 = N_Mo_sum_64 F (N_Mo_sum_9 F z) m (nI L.length) (nI ar) (nI (nBr L)) 1 (tok w) := by
            intro h
            unfold BN_Mo_sum_9
            rw [if_neg (by decide), hq.2.2.1, if_neg n0, en, Option.bind_some]
            by_cases c : (12 : Int32) < nI ar
            · simp [c]
            · have c' : ¬ 12 < ar := fun q => c (nI_lt (a := 12) q (by omega))
              obtain ⟨h1, h2, h3, h4⟩ := h.resolve_left c'
              simp [c, h1, h2, h3, h4]
          have pre60 : ¬ 12 < ar → (0 ≤ tok w ∨ tok w = -6 ∨ tok w = -7 ∨ tok w = -8) → BN_Mo_sum_9 F (N_Mo_sum_9 F z) m (nI L.length) (nI ar) (nI (nBr L)) 1 = N_Mo_sum_60 F (N_Mo_sum_9 F z) m (nI L.length) (nI ar) (nI (nBr L)) 1 (tok w) := by
            intro c' h
            have c : ¬ (12 : Int32) < nI ar := nI_nlt (b := ar) (a := 12) (by omega) (by decide)
            unfold BN_Mo_sum_9
            rw [if_neg (by decide), hq.2.2.1, if_neg n0, en, Option.bind_some]
            simp only [c, if_false]
            by_cases h1 : 0 ≤ tok w
            · simp [h1]
            · by_cases h2 : tok w = -6
              · simp [h2]
              · by_cases h3 : tok w = -7
                · simp [h3]
                · have h4 : tok w = -8 := ((h.resolve_left h1).resolve_left h2).resolve_left h3
                  simp [h4]
          have e23 : (sPut m 23 (m.1 23 + 1)) = sPut m 23 (nI (w + 1)) := by rw [hq.2.1, nI_1]
          have q1 : Q (sPut m 23 (nI (w + 1))) e E (w + 1) := hq.adv
          have f1 := FrY.p23 e m (nI (w + 1))
          have hx1 := hx.fr f1
          have s1 : Sg (sPut m 23 (nI (w + 1))) L := Sg.of (m := m) (by rfl) (by rfl) hs
          by_cases c12 : 12 < ar
          · apply bad _ (pre64 (Or.inl c12))
            unfold ta
            simp [c12]
          · by_cases c0 : 0 ≤ tok w
            · -- a number
              obtain ⟨v, hv, et⟩ := htok w hlt c0
              have hcl : (tok w).toNatClampNeg = v := by rw [et]; exact nI_clamp (by omega)
              have eta : ta (E, 2, ar, rel, nw, L) w (tok w) = some (enA (emt E 0 v) ar rel nw L) := by
                unfold ta
                simp [c12, c0, hcl]
              have hwf1 := ta_wf (fun _ => by rw [hcl]; exact hv) hwf eta
              obtain ⟨m2, x2, f2, q2, g1, g2⟩ := put_eq (F := F) hx1 q1 (by omega) 0 v (x := -21) (y := tok w) rfl (fun _ => et)
              have hext := emt_ext E 0 v
              have hext2 : Ext (emt E 0 v) (stl 3 L (emt E 0 v) ar).2.1 := by
                have hb2 := wa_bound hL
                have hs2 := emt_ws (k := 0) (v := v) hF1.2.2.2.1 (by simp at hh; omega) (Or.inl ⟨rfl, hv⟩)
                exact (stl_ok (tc := tc) (rho := if rel = 0 then 0 else 1) (r := 3) (by decide) (L := L) (E := emt E 0 v) (ar := ar) hL hs2 ((hext.1 3 (by decide)).trans htc) ha (by omega) hr1 (by rw [emt_h]; simp at hh ⊢; omega)).2.1
              obtain ⟨m3, x3, y3⟩ := ih5 (w + 1) F z m2 (emt E 0 v) ar L (by omega) (by omega) (by omega) (by omega) (hx1.fr f2) q2 (s1.of g1 g2) ((hext.1 3 (by decide)).trans htc) hL ha (by omega) (by rw [emt_2]; omega) hwf1 hext2
              refine ⟨m3, ?_, ?_⟩
              · show BN_Mo_sum_9 F (N_Mo_sum_9 F z) m (nI L.length) (nI ar) (nI (nBr L)) 1 = _
                rw [pre60 c12 (Or.inl c0)]
                have n8 : ¬ tok w = -8 := fun q => by rw [q] at c0; exact absurd c0 (by decide)
                have n7 : ¬ tok w = -7 := fun q => by rw [q] at c0; exact absurd c0 (by decide)
                have n6 : ¬ tok w = -6 := fun q => by rw [q] at c0; exact absurd c0 (by decide)
                unfold N_Mo_sum_60 N_Mo_sum_65
                rw [w1, Option.bind_some, if_neg (show ¬ (1 : Int32) = 0 by decide)]
                simp only [e23, Option.bind_some, n8, n7, n6, if_false, x2, N_Mo_sum_246]
                exact x3
              · rw [run_step hlt eta]
                exact SumR.pre (f1.trans f2) hext (by omega) y3
            · by_cases c6 : tok w = -6 ∨ tok w = -7
              · -- a name follows
                obtain ⟨aw, haw, eta⟩ : ∃ aw, (tok w = -6 ∧ aw = 3 ∨ tok w = -7 ∧ aw = 4) ∧ ta (E, 2, ar, rel, nw, L) w (tok w) = some (E, aw, ar, rel, nw, L) := by
                  rcases c6 with c6 | c6
                  · refine ⟨3, Or.inl ⟨c6, rfl⟩, ?_⟩
                    unfold ta
                    simp [c12, c6]
                  · refine ⟨4, Or.inr ⟨c6, rfl⟩, ?_⟩
                    unfold ta
                    simp [c12, c6]
                have hwf1 := ta_wf (fun q => absurd q c0) hwf eta
                have en1 := now_eq (F := F) hx1 q1.2.1 (by omega)
                have w0' := want_0 (F := F) q1.2.2.1 q1.2.1 (by omega)
                have w1' := want_1 (F := F) q1.2.2.1 (x := 1) (by decide)
                have n8 : ¬ tok w = -8 := fun q => by rcases c6 with h | h <;> rw [h] at q <;> exact absurd q (by decide)
                have pre : N_Mo_sum_9 F (z + 1) m (nI L.length) (nI ar) (nI (nBr L)) 1 = N_Mo_sum_123 F (N_Mo_sum_9 F z) (sPut m 23 (nI (w + 1))) (nI L.length) (nI ar) (nI (nBr L)) 1 (tok w) := by
                  show BN_Mo_sum_9 F (N_Mo_sum_9 F z) m (nI L.length) (nI ar) (nI (nBr L)) 1 = _
                  rw [pre60 c12 (Or.inr (by rcases c6 with h | h; exact Or.inl h; exact Or.inr (Or.inl h)))]
                  unfold N_Mo_sum_60 N_Mo_sum_65
                  rw [w1, Option.bind_some, if_neg (show ¬ (1 : Int32) = 0 by decide)]
                  simp only [e23, Option.bind_some, n8, if_false]
                  rcases c6 with h | h
                  · simp [h]
                  · simp [h]
                rw [pre, run_step hlt eta]
                obtain ⟨t1, ht1⟩ : ∃ t1, t1 = tw tok W (w + 1) := ⟨_, rfl⟩
                rw [← ht1] at en1
                obtain ⟨lim, hlim⟩ : ∃ lim : Nat, lim = if tok w = -7 then tc else 20 := ⟨_, rfl⟩
                have htc8 : tc ≤ 8 := by rw [← htc]; exact hF1.2.1
                have hlim20 : lim ≤ 20 := by rw [hlim]; split <;> omega
                have e6 : ¬ (nI e < 0 ∨ 6 ≤ (nI e).toNatClampNeg) := nI_in (by have := hx.2.1; omega) (by decide)
                have e7 : (nI e).toNatClampNeg = e := nI_clamp (by have := hx.2.1; omega)
                -- what the reference does
                have pre2 : N_Mo_sum_123 F (N_Mo_sum_9 F z) (sPut m 23 (nI (w + 1))) (nI L.length) (nI ar) (nI (nBr L)) 1 (tok w) = N_Mo_sum_164 F (N_Mo_sum_9 F z) (sPut m 23 (nI (w + 1))) (nI L.length) (nI ar) (nI (nBr L)) 1 (tok w) (if 0 ≤ t1 ∧ t1 < nI lim then 1 else 0) := by
                  unfold N_Mo_sum_123 N_Mo_sum_156 N_Mo_sum_163
                  rw [en1, Option.bind_some]
                  by_cases d0 : t1 < 0
                  · have : ¬ (0 ≤ t1 ∧ t1 < nI lim) := fun q => absurd (Int32.lt_of_lt_of_le d0 q.1) Int32.lt_irrefl
                    simp [d0, this]
                  · have d0' : 0 ≤ t1 := Int32.not_lt.mp d0
                    simp only [d0, if_false]
                    rw [en1, Option.bind_some]
                    have h22 : (sPut m 23 (nI (w + 1))).1 22 = nI e := hx1.1
                    have h10 : (sPut m 23 (nI (w + 1))).2.1 10 e = nI tc := hx1.2.2.2.2.2
                    by_cases c7 : tok w = -7
                    · rw [if_pos c7] at hlim
                      rw [if_pos c7, h22, if_neg e6, e7, h10, hlim]
                      by_cases d1 : nI tc ≤ t1
                      · have : ¬ (0 ≤ t1 ∧ t1 < nI tc) := fun q => absurd (Int32.lt_of_lt_of_le q.2 d1) Int32.lt_irrefl
                        rw [if_pos d1, if_neg this]
                      · rw [if_neg d1, if_pos ⟨d0', Int32.not_le.mp d1⟩]
                    · rw [if_neg c7] at hlim
                      rw [if_neg c7, hlim]
                      have e20 : nI 20 = 20 := rfl
                      rw [e20]
                      by_cases d1 : (20 : Int32) ≤ t1
                      · have : ¬ (0 ≤ t1 ∧ t1 < 20) := fun q => absurd (Int32.lt_of_lt_of_le q.2 d1) Int32.lt_irrefl
                        rw [if_pos d1, if_neg this]
                      · rw [if_neg d1, if_pos ⟨d0', Int32.not_le.mp d1⟩]
                rw [pre2]
                by_cases ok : w + 1 < W ∧ 0 ≤ t1 ∧ t1 < nI lim
                · obtain ⟨hlt1, ok0, ok1⟩ := ok
                  have et1 : t1 = tok (w + 1) := by rw [ht1]; unfold tw; rw [if_pos hlt1]
                  obtain ⟨v, hv, etv⟩ := htok (w + 1) hlt1 (et1 ▸ ok0)
                  have ev1 : t1 = nI v := et1.trans etv
                  have hvl : v < lim := by rw [ev1, nI_ltI (by omega) (by omega)] at ok1; exact ok1
                  have hcl : (tok (w + 1)).toNatClampNeg = v := by rw [etv]; exact nI_clamp (by omega)
                  rw [if_pos ⟨ok0, ok1⟩]
                  have e23b : ∀ y : MS, y.1 23 = nI (w + 1) → sPut y 23 (y.1 23 + 1) = sPut y 23 (nI (w + 2)) := fun y hy => by rw [hy, nI_1]
                  rcases haw with ⟨c6', haw⟩ | ⟨c7, haw⟩
                  · -- a fact
                    subst haw
                    have n7 : ¬ tok w = -7 := by rw [c6']; decide
                    rw [if_neg n7] at hlim
                    have eta2 : ta (E, 3, ar, rel, nw, L) (w + 1) (tok (w + 1)) = some (enA (emt E 1 v) ar rel nw L) := by
                      unfold ta
                      have : 0 ≤ tok (w + 1) ∧ tok (w + 1) < 20 := by
                        rw [← et1]; refine ⟨ok0, ?_⟩
                        have e20 : nI 20 = (20 : Int32) := rfl
                        rw [hlim, e20] at ok1; exact ok1
                      simp [this, hcl]
                    have hwf2 := ta_wf (fun _ => by rw [hcl]; exact hv) hwf1 eta2
                    obtain ⟨m2, x2, f2, q2, g1, g2⟩ := put_eq (F := F) hx1 q1 (by omega) 1 v (x := -6) (y := t1) rfl (fun _ => ev1)
                    have q3 : Q (sPut m2 23 (nI (w + 2))) e (emt E 1 v) (w + 2) := q2.adv
                    have f3 := FrY.p23 e m2 (nI (w + 2))
                    have hext := emt_ext E 1 v
                    have hext2 : Ext (emt E 1 v) (stl 3 L (emt E 1 v) ar).2.1 := by
                      have hb2 := wa_bound hL
                      have hs2 := emt_ws (k := 1) (v := v) hF1.2.2.2.1 (by simp at hh; omega) (Or.inr (Or.inl ⟨rfl, by omega⟩))
                      exact (stl_ok (tc := tc) (rho := if rel = 0 then 0 else 1) (r := 3) (by decide) (L := L) (E := emt E 1 v) (ar := ar) hL hs2 ((hext.1 3 (by decide)).trans htc) ha (by omega) hr1 (by rw [emt_h]; simp at hh ⊢; omega)).2.1
                    obtain ⟨m3, x3, y3⟩ := ih5 (w + 2) F z (sPut m2 23 (nI (w + 2))) (emt E 1 v) ar L (by omega) (by omega) (by omega) (by omega) ((hx1.fr f2).fr f3) q3 (Sg.of (m := m2) (by rfl) (by rfl) (s1.of g1 g2)) ((hext.1 3 (by decide)).trans htc) hL ha (by omega) (by rw [emt_2]; omega) hwf2 hext2
                    refine ⟨m3, ?_, ?_⟩
                    · unfold N_Mo_sum_164
                      rw [w1', Option.bind_some, if_neg (show ¬ (1 : Int32) = 0 by decide)]
                      simp only [n7, if_false, en1, Option.bind_some, x2]
                      rw [e23b m2 q2.2.1]
                      simp only [N_Mo_sum_246]
                      exact x3
                    · rw [run_step hlt1 eta2]
                      exact SumR.pre ((f1.trans f2).trans f3) hext (by omega) y3
                  · -- a place
                    subst haw
                    rw [if_pos c7] at hlim
                    have eta2 : ta (E, 4, ar, rel, nw, L) (w + 1) (tok (w + 1)) = some (E, 2, ar + 1, rel, nw, (2, v) :: L) := by
                      unfold ta
                      have : 0 ≤ tok (w + 1) ∧ tok (w + 1) < nI (E.1 3) := by
                        rw [← et1, htc, ← hlim]; exact ⟨ok0, ok1⟩
                      simp [this, hcl]
                    have hwf2 := ta_wf (fun _ => by rw [hcl]; exact hv) hwf1 eta2
                    obtain ⟨m2, hm2⟩ : ∃ y, y = sStI (sStI (sPut m 23 (nI (w + 1))) 25 L.length (-7)) 26 L.length t1 := ⟨_, rfl⟩
                    have f2 : FrY e (sPut m 23 (nI (w + 1))) m2 := by rw [hm2]; exact (FrY.sg e _ _ _).trans (FrY.sv e _ _ _)
                    have q2 : Q m2 e E (w + 1) := by rw [hm2]; exact (q1.sg _ _).sv _ _
                    have q3 : Q (sPut m2 23 (nI (w + 2))) e E (w + 2) := q2.adv
                    have f3 := FrY.p23 e m2 (nI (w + 2))
                    have s3 : Sg (sPut m2 23 (nI (w + 2))) ((2, v) :: L) := by
                      refine ⟨by rw [hm2]; simp [sPut, sStI, upd]; rfl, fun _ => by rw [hm2]; simp [sPut, sStI, upd, ev1], ?_⟩
                      refine Sg.up (n := L.length) (m := m) (fun i hi => ?_) (fun i hi => ?_) (Nat.le_refl _) hs
                      · have : ¬ i = L.length := by omega
                        rw [hm2]; simp [sPut, sStI, upd, this]
                      · have : ¬ i = L.length := by omega
                        rw [hm2]; simp [sPut, sStI, upd, this]
                    obtain ⟨m3, x3, y3⟩ := ih9 (w + 2) z (sPut m2 23 (nI (w + 2))) E (ar + 1) ((2, v) :: L) (by omega) (by omega) (by omega) ((hx1.fr f2).fr f3) q3 s3 htc hwf2
                    refine ⟨m3, ?_, ?_⟩
                    · have a2 : ¬ (nI L.length < 0 ∨ 500 ≤ (nI L.length).toNatClampNeg) := nI_in (by omega) (by decide)
                      have a3 : (nI L.length).toNatClampNeg = L.length := nI_clamp (by omega)
                      have en2 := now_eq (F := F) (hx1.fr (FrY.sg e (sPut m 23 (nI (w + 1))) L.length (-7))) (q1.sg _ _).2.1 (w := w + 1) (by omega)
                      rw [← ht1] at en2
                      unfold N_Mo_sum_164
                      rw [w1', Option.bind_some, if_neg (show ¬ (1 : Int32) = 0 by decide), if_pos c7, if_neg a2, a3, Option.bind_some, en2, Option.bind_some]
                      rw [a3] at a2
                      rw [if_neg a2, Option.bind_some, ← hm2, e23b m2 q2.2.1, Option.bind_some, nI_1, nI_1]
                      have : nBr ((2, v) :: L) = nBr L := by simp [nBr]
                      rw [this] at x3
                      exact x3
                    · rw [run_step hlt1 eta2]
                      exact SumR.pre ((f1.trans f2).trans f3) (Ext.refl E) (by omega) y3
                · have hno : ¬ (0 ≤ t1 ∧ t1 < nI lim) ∨ ¬ w + 1 < W := by
                    by_cases h : w + 1 < W
                    · exact Or.inl (fun q => ok ⟨h, q⟩)
                    · exact Or.inr h
                  have hno2 : ¬ (0 ≤ t1 ∧ t1 < nI lim) := by
                    rcases hno with h | h
                    · exact h
                    · have : t1 = -20 := by rw [ht1]; unfold tw; rw [if_neg h]
                      rw [this]
                      exact fun q => absurd q.1 (by decide)
                  rw [if_neg hno2]
                  refine ⟨sPut (sPut m 23 (nI (w + 1))) 24 (nI (w + 1)), ?_, f1.trans (FrY.p24 e _ _), Or.inl ⟨w + 1, by omega, by simp [sPut, upd], by simp [sPut, upd], ?_⟩⟩
                  · unfold N_Mo_sum_164
                    rw [w0', Option.bind_some, if_pos rfl]
                  · by_cases hlt1 : w + 1 < W
                    · apply run_bad hlt1
                      have et1 : t1 = tok (w + 1) := by rw [ht1]; unfold tw; rw [if_pos hlt1]
                      rcases haw with ⟨c6', haw⟩ | ⟨c7, haw⟩
                      · subst haw
                        have n7 : ¬ tok w = -7 := by rw [c6']; decide
                        rw [if_neg n7] at hlim
                        unfold ta
                        have : ¬ (0 ≤ tok (w + 1) ∧ tok (w + 1) < 20) := by
                          rw [← et1]
                          have e20 : nI 20 = (20 : Int32) := rfl
                          rw [hlim, e20] at hno2; exact hno2
                        simp [this]
                      · subst haw
                        rw [if_pos c7] at hlim
                        unfold ta
                        have : ¬ (0 ≤ tok (w + 1) ∧ tok (w + 1) < nI (E.1 3)) := by
                          rw [← et1, htc, ← hlim]; exact hno2
                        simp [this]
                    · exact run_end (by omega) (by rcases haw with ⟨-, h⟩ | ⟨-, h⟩ <;> rw [h] <;> simp)
              · have c6a : tok w ≠ -6 := fun q => c6 (Or.inl q)
                have c7a : tok w ≠ -7 := fun q => c6 (Or.inr q)
                by_cases c8 : tok w = -8
                · -- a bracket
                  have eta : ta (E, 2, ar, rel, nw, L) w (tok w) = some (E, 2, ar + 1, rel, nw, (3, 0) :: L) := by
                    unfold ta
                    simp [c12, c8]
                  have hwf1 := ta_wf (fun q => absurd q c0) hwf eta
                  have q2 := q1.sg L.length (-8)
                  have f2 := FrY.sg e (sPut m 23 (nI (w + 1))) L.length (-8)
                  have s2 := s1.push 3 0 (-8) rfl (by decide)
                  obtain ⟨m3, x3, y3⟩ := ih9 (w + 1) z (sStI (sPut m 23 (nI (w + 1))) 25 L.length (-8)) E (ar + 1) ((3, 0) :: L) (by omega) (by omega) (by omega) (hx1.fr f2) q2 s2 htc hwf1
                  refine ⟨m3, ?_, ?_⟩
                  · show BN_Mo_sum_9 F (N_Mo_sum_9 F z) m (nI L.length) (nI ar) (nI (nBr L)) 1 = _
                    rw [pre60 c12 (Or.inr (Or.inr (Or.inr c8)))]
                    have a2 : ¬ (nI L.length < 0 ∨ 500 ≤ (nI L.length).toNatClampNeg) := nI_in (by omega) (by decide)
                    have a3 : (nI L.length).toNatClampNeg = L.length := nI_clamp (by omega)
                    unfold N_Mo_sum_60 N_Mo_sum_65
                    rw [w1, Option.bind_some, if_neg (show ¬ (1 : Int32) = 0 by decide), e23, Option.bind_some, if_pos c8, if_neg a2, a3, Option.bind_some, nI_1, nI_1, nI_1]
                    have : nBr ((3, 0) :: L) = nBr L + 1 := by simp [nBr]
                    rw [this] at x3
                    exact x3
                  · rw [run_step hlt eta]
                    exact SumR.pre (f1.trans f2) (Ext.refl E) (by omega) y3
                · apply bad _ (pre64 (Or.inr ⟨c0, c6a, c7a, c8⟩))
                  unfold ta
                  simp [c12, c0, c6a, c7a, c8]
    · intro w z5 z9 m E ar L hwW hD hz5 hz9 hx hq hs htc hL ha ha12 hb hwf hext
      by_cases hwD : W - w ≤ D
      · exact ih5 w z5 z9 m E ar L hwW hwD hz5 hz9 hx hq hs htc hL ha ha12 hb hwf hext
      · have hlt : w < W := by omega
        obtain ⟨z5, rfl⟩ : ∃ y, z5 = y + 1 := ⟨z5 - 1, by omega⟩
        obtain ⟨m1, x1, f1, q1, g1⟩ := pop_places (F := F) (r9 := N_Mo_sum_9 F z9) (r249 := N_Mo_sum_249 F (N_Mo_sum_9 F z9) z5) (br := nI (nBr L)) L E ar F m hx hq hs hL ha hb (by omega)
        have hx1 := hx.fr f1
        have hW4 := hx.2.2.2.1
        have en := now_eq (F := F) hx1 q1.2.1 (by omega)
        have etw : tw tok W w = tok w := by unfold tw; rw [if_pos hlt]
        have htc1 : (stl 3 L E ar).2.1.1 3 = tc := (hext.1 3 (by decide)).trans htc
        have hbr := nBr_stl (E := E) (ar := ar) hL
        obtain ⟨E1, hE1⟩ : ∃ x, x = (stl 3 L E ar).2.1 := ⟨_, rfl⟩
        obtain ⟨L1, hL1⟩ : ∃ x, x = (stl 3 L E ar).1 := ⟨_, rfl⟩
        obtain ⟨a1, ha1⟩ : ∃ x, x = (stl 3 L E ar).2.2 := ⟨_, rfl⟩
        unfold enA at hwf ⊢
        rw [← hE1, ← hL1, ← ha1] at hwf ⊢
        rw [← hL1, ← ha1] at x1
        rw [← hE1] at q1 htc1 hext
        rw [← hL1] at g1 hbr
        obtain ⟨hbw, hw2 | hw2⟩ := id hwf
        · have := hw2.1; simp at this
        · obtain ⟨-, -, hF1, hR, hLw, hd2, haw, ha13, ha12', hrel, hnw, hh⟩ := hw2
          simp only at hbw hF1 hR hLw hd2 haw ha13 ha12' hrel hnw hh
          have hd2 := hd2 trivial
          rw [htc1] at hLw
          have hpos := nBr_pos hLw hd2
          have hbl := nBr_le (L := L1)
          have hr1 : (if rel = 0 then 0 else 1) ≤ 1 := by split <;> omega
          simp only [if_true] at hh
          show ∃ m2, BN_Mo_sum_249 F (N_Mo_sum_9 F z9) (N_Mo_sum_249 F (N_Mo_sum_9 F z9) z5) m (nI L.length) (nI ar) (nI (nBr L)) 1 = some m2 ∧ _
          unfold BN_Mo_sum_249
          rw [if_neg (by decide), x1, ← hbr]
          obtain ⟨z5, rfl⟩ : ∃ y, z5 = y + 1 := ⟨z5 - 1, by omega⟩
          by_cases cc : 0 < nBr L1 ∧ tok w = -9
          · -- a bracket is closed
            obtain ⟨cb, c9⟩ := cc
            have hap : 0 < nAr L1 := hpos.mp cb
            obtain ⟨m2, v2, L2, y1, y2, y3, y4, y5, y6, y7⟩ := pop_close (F := F) (r9 := N_Mo_sum_9 F z9) (r249 := N_Mo_sum_249 F (N_Mo_sum_9 F z9) (z5 + 1)) (ar := a1) (br := nBr L1) (x6 := 1) L1 E1 F m1 hx1 q1 g1 hLw hd2 hap (by omega) (by omega)
            obtain ⟨i1, i2, i3, i4, i5, i6, i7, i8⟩ := stl_ok (tc := tc) (rho := if rel = 0 then 0 else 1) (r := 1) (by decide) (L := L1) (E := E1) (ar := a1) hLw hF1.2.2.2.1 htc1 haw (by omega) hr1 hh
            rw [y1] at i3 i4 i6 i7
            rw [y2] at i4
            simp only [nAr, nOp, isOp, List.length_cons] at i4 i6 i7
            simp at i4 i6
            have eta : ta (E1, 5, a1, rel, nw, L1) w (tok w) = some (enA (stl 1 L1 E1 a1).2.1 (a1 - 1) rel nw L2) := by
              show tb E1 a1 rel nw L1 w (tok w) = _
              unfold tb
              rw [c9]
              have o9 : opk (-9) = 0 := by decide
              have ha0 : 0 < a1 := by omega
              rw [if_neg (by rw [o9]; simp), if_pos ha0, if_pos rfl, y1, y2]
              simp
            have hwf1 := ta_wf (fun q => by rw [c9] at q; exact absurd q (by decide)) hwf eta
            have htc2 : (stl 1 L1 E1 a1).2.1.1 3 = tc := (i2.1 3 (by decide)).trans htc1
            have hext2 : Ext (stl 1 L1 E1 a1).2.1 (stl 3 L2 (stl 1 L1 E1 a1).2.1 (a1 - 1)).2.1 := (stl_ok (tc := tc) (rho := if rel = 0 then 0 else 1) (r := 3) (by decide) (L := L2) (E := (stl 1 L1 E1 a1).2.1) (ar := a1 - 1) i3.1 i1 htc2 (by omega) (by omega) hr1 i6).2.1
            obtain ⟨m3, x3, w3⟩ := ih5 (w + 1) (z5 + 1) z9 m2 (stl 1 L1 E1 a1).2.1 (a1 - 1) L2 (by omega) (by omega) (by omega) (by omega) (hx1.fr y4) y5 y6 htc2 i3.1 (by omega) (by omega) (by omega) hwf1 hext2
            refine ⟨m3, ?_, ?_⟩
            · have cb' : ¬ nI (nBr L1) ≤ 0 := nI_nle cb (by omega)
              unfold N_Mo_sum_292 N_Mo_sum_310
              rw [if_neg cb', en, Option.bind_some, etw]
              simp only [c9, if_true]
              rw [if_neg (show ¬ (1 : Int32) = 0 by decide), y3]
              have u1 : nI a1 + (-1) = nI (a1 - 1) := by
                obtain ⟨j, hj⟩ : ∃ j, a1 = j + 1 := ⟨a1 - 1, by omega⟩
                rw [hj, nI_m1]; rfl
              have u2 : nI (nBr L1) + (-1) = nI (nBr L2) := by rw [← y7, nI_m1]
              rw [u1, u2]
              exact x3
            · rw [run_step hlt eta]
              exact SumR.pre (f1.trans y4) (hext.trans i2) (by omega) w3
          · -- no bracket is closed
            have e0 : ∀ X : Option MS, N_Mo_sum_249 F (N_Mo_sum_9 F z9) (z5 + 1) m1 (nI L1.length) (nI a1) (nI (nBr L1)) 0 = X → N_Mo_sum_292 F (N_Mo_sum_9 F z9) (N_Mo_sum_249 F (N_Mo_sum_9 F z9) (z5 + 1)) m1 (nI L1.length) (nI a1) (nI (nBr L1)) = X := by
              intro X hX
              unfold N_Mo_sum_292 N_Mo_sum_309 N_Mo_sum_310
              by_cases c : nI (nBr L1) ≤ 0
              · rw [if_pos c, if_pos rfl]; exact hX
              · rw [if_neg c, en, Option.bind_some, etw]
                have cb : 0 < nBr L1 := by
                  apply Classical.byContradiction
                  intro q
                  exact c (by rw [show nBr L1 = 0 by omega]; decide)
                have n9 : ¬ tok w = -9 := fun q => cc ⟨cb, q⟩
                simp only [n9, if_false]
                exact hX
            rcases opk_t (tok w) with ho | ⟨ho1, ho2, ho3⟩
            · -- the sum ends
              obtain ⟨m2, x2, y2⟩ := sum_end (F := F) (z := z9) (x2 := nI a1) hx1 q1 g1 hwf htc1 hwW hF (by omega) (by rw [etw]; exact ho) (fun q => by rw [etw]; exact fun h => cc ⟨q, h⟩)
              refine ⟨m2, e0 _ ?_, SumR.pre f1 hext (Nat.le_refl _) y2⟩
              show BN_Mo_sum_249 F (N_Mo_sum_9 F z9) (N_Mo_sum_249 F (N_Mo_sum_9 F z9) z5) m1 _ _ _ 0 = _
              unfold BN_Mo_sum_249 N_Mo_sum_465
              rw [if_pos rfl, en, Option.bind_some, etw, isOp_t, if_pos ho]
              exact x2
            · -- an operator
              have ho0 : ¬ opk (tok w) = 0 := by omega
              obtain ⟨m2, y1, y2, y3, y4, y5, y6⟩ := pop_op (F := F) (r9 := N_Mo_sum_9 F z9) (ar := a1) (k0 := opk (tok w)) (br := nI (nBr L1)) (x4 := 1) ⟨ho1, ho2⟩ (by rw [etw]; exact ho3) (by omega) L1 E1 F m1 hx1 q1 g1 hLw hd2 (by omega) (by omega)
              obtain ⟨i1, i2, i3, i4, i5, i6, i7, i8⟩ := stl_ok (tc := tc) (rho := if rel = 0 then 0 else 1) (r := rnkK (opk (tok w))) (rnk_op ⟨ho1, ho2⟩).1 (L := L1) (E := E1) (ar := a1) hLw hF1.2.2.2.1 htc1 haw (by omega) hr1 hh
              have eta : ta (E1, 5, a1, rel, nw, L1) w (tok w) = some ((stl (rnkK (opk (tok w))) L1 E1 a1).2.1, 2, a1, rel, nw, (opk (tok w), 0) :: (stl (rnkK (opk (tok w))) L1 E1 a1).1) := by
                show tb E1 a1 rel nw L1 w (tok w) = _
                unfold tb
                rw [if_pos ho0, y2]
              have hneg : ¬ 0 ≤ tok w := by
                intro q
                rw [ho3] at q
                have : opk (tok w) = 4 ∨ opk (tok w) = 5 ∨ opk (tok w) = 6 ∨ opk (tok w) = 7 ∨ opk (tok w) = 8 := by omega
                rcases this with h | h | h | h | h <;> rw [h] at q <;> exact absurd q (by decide)
              have hwf1 := ta_wf (fun q => absurd q hneg) hwf eta
              obtain ⟨E2, hE2⟩ : ∃ x, x = (stl (rnkK (opk (tok w))) L1 E1 a1).2.1 := ⟨_, rfl⟩
              obtain ⟨L2, hL2⟩ : ∃ x, x = (stl (rnkK (opk (tok w))) L1 E1 a1).1 := ⟨_, rfl⟩
              rw [← hE2, ← hL2] at eta hwf1
              rw [← hL2] at y1 y5 y6 i7
              rw [← hE2] at y4 i2 i7
              have hx2 := hx1.fr y3
              have en2 := now_eq (F := F) hx2 y4.2.1 (by omega)
              rw [etw] at en2
              have q3 := y4.sg L2.length (tok w)
              have f3 := FrY.sg e m2 L2.length (tok w)
              have s3 := y5.push (opk (tok w)) 0 (tok w) ho3 (by omega)
              have q4 : Q (sPut (sStI m2 25 L2.length (tok w)) 23 (nI (w + 1))) e E2 (w + 1) := q3.adv
              have f4 := FrY.p23 e (sStI m2 25 L2.length (tok w)) (nI (w + 1))
              obtain ⟨m3, x3, w3⟩ := ih9 (w + 1) z9 (sPut (sStI m2 25 L2.length (tok w)) 23 (nI (w + 1))) E2 a1 ((opk (tok w), 0) :: L2) (by omega) (by omega) (by omega) ((hx2.fr f3).fr f4) q4 (Sg.of (m := sStI m2 25 L2.length (tok w)) (by rfl) (by rfl) s3) ((i2.1 3 (by decide)).trans htc1) hwf1
              refine ⟨m3, e0 _ ?_, ?_⟩
              · show BN_Mo_sum_249 F (N_Mo_sum_9 F z9) (N_Mo_sum_249 F (N_Mo_sum_9 F z9) z5) m1 _ _ _ 0 = _
                unfold BN_Mo_sum_249
                rw [if_pos rfl, en, Option.bind_some, etw, isOp_t, if_neg ho0, Option.bind_some]
                simp only [show ¬ (1 : Int32) = 0 by decide, if_false]
                rw [y1]
                have a2 : ¬ (nI L2.length < 0 ∨ 500 ≤ (nI L2.length).toNatClampNeg) := nI_in (by omega) (by decide)
                have a3 : (nI L2.length).toNatClampNeg = L2.length := nI_clamp (by omega)
                unfold N_Mo_sum_442 N_Mo_sum_465
                rw [en2, Option.bind_some, if_neg a2, a3, Option.bind_some]
                have e23b : (sStI m2 25 L2.length (tok w)).1 23 = nI (w + 1 - 1) := q3.2.1
                have e23c : (sStI m2 25 L2.length (tok w)).1 23 + 1 = nI (w + 1) := by rw [e23b, nI_1]; congr 1
                simp only [e23c, Option.bind_some, nI_1]
                have hnb : nBr ((opk (tok w), 0) :: L2) = nBr L1 := by
                  have : ¬ opk (tok w) = 3 := by omega
                  simp [nBr, this, y6]
                rw [hnb] at x3
                exact x3
              · rw [run_step hlt eta]
                exact SumR.pre (((f1.trans y3).trans f3).trans f4) (hext.trans i2) (by omega) w3
end SUMMAIN
