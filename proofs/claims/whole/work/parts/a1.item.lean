/-! THE REFERENCE READS ITEMS -/
def lim (k : Nat) : Nat := if k = 10 ∨ k = 13 then 1 else if k = 11 then 8 else if k = 12 then 80 else if 14 ≤ k ∧ k ≤ 18 then 12 else if k = 19 ∨ k = 20 then 400 else 0
def laI : List Nat := [10, 11, 12, 13, 14, 15, 16, 17, 18, 19, 20, 25, 26]
def FrI (e : Nat) (m m2 : MS) : Prop := FrM m m2 [21, 23, 24] laI [] ∧ ∀ k i, i < lim k * e → m2.2.1 k i = m.2.1 k i
theorem FrI.refl (e : Nat) (m : MS) : FrI e m m := ⟨FrM.refl m _ _ _, fun _ _ _ => rfl⟩
theorem FrI.trans {e : Nat} {m m2 m3 : MS} (h : FrI e m m2) (g : FrI e m2 m3) : FrI e m m3 := ⟨h.1.trans g.1, fun k i hi => (g.2 k i hi).trans (h.2 k i hi)⟩
theorem FrY.i {e : Nat} {m m2 : MS} (h : FrY e m m2) : FrI e m m2 := by
  refine ⟨h.1.mono (fun c h => h) (fun c h => ?_) (fun c h => h), fun k i hi => ?_⟩
  · simp [laI] at h ⊢; omega
  · by_cases c : k = 19 ∨ k = 20
    · rcases c with c | c
      · subst c; exact (h.2 i (by simpa [lim] using hi)).1
      · subst c; exact (h.2 i (by simpa [lim] using hi)).2
    · by_cases c2 : k = 25 ∨ k = 26
      · rcases c2 with c2 | c2 <;> subst c2 <;> simp [lim] at hi
      · rw [h.1.2.1 k (by simp; omega)]
theorem FrI.st {e : Nat} (m : MS) (k i : Nat) (x : Int32) (hk : k ∈ laI) (hi : lim k * e ≤ i) : FrI e m (sStI m k i x) := by
  refine ⟨⟨fun _ _ => rfl, fun j hj => ?_, fun _ _ => rfl⟩, fun j q hq => ?_⟩
  · have : j ≠ k := fun q => hj (q ▸ hk)
    simp [sStI, this]
  · by_cases c : j = k
    · subst c
      have : q ≠ i := by omega
      simp [sStI, upd, this]
    · simp [sStI, c]
def TbN (m : MS) (e : Nat) (E : Ed) (c : Nat) : Prop := ∀ t, t < c → m.2.1 11 (8 * e + t) = nI (E.2 3 t) ∧ ∀ k, k < E.2 3 t → m.2.1 12 (80 * e + 10 * t + k) = nI (E.2 4 (10 * t + k))
def RuN (m : MS) (e : Nat) (E : Ed) (c : Nat) : Prop := ∀ k, k < c → m.2.1 17 (12 * e + k) = nI (E.2 5 k) ∧ m.2.1 14 (12 * e + k) = nI (E.2 6 k) ∧ m.2.1 18 (12 * e + k) + 1 = nI (E.2 7 k) ∧ (m.2.1 15 (12 * e + k) = if E.2 10 k = 0 then -1 else nI (E.2 8 k)) ∧ m.2.1 16 (12 * e + k) = nI (E.2 9 k)
def NI (m : MS) (e W : Nat) (tok : Nat → Int32) (E : Ed) (w : Nat) : Prop := Fx m e W tok (E.1 3) ∧ Q m e E w ∧ m.2.1 13 e = nI (E.1 4) ∧ TbN m e E (E.1 3) ∧ RuN m e E (E.1 4)
def ItR (m m2 : MS) (e W : Nat) (tok : Nat → Int32) (w : Nat) (R : Nat ⊕ SA) : Prop :=
  FrI e m m2 ∧ ((∃ j, j ≤ W ∧ m2.1 24 = nI j ∧ R = .inl j) ∨ ∃ w2 E2 nw2, w < w2 ∧ w2 ≤ W ∧ NI m2 e W tok E2 w2 ∧ WFS (E2, 0, 0, 0, nw2, []) w2 ∧ R = run tok (W - w2) w2 (E2, 0, 0, 0, nw2, []))
theorem ItR.pre {m m1 m2 : MS} {e W : Nat} {tok : Nat → Int32} {w w1 : Nat} {R : Nat ⊕ SA} (f : FrI e m m1) (hw : w ≤ w1) (h : ItR m1 m2 e W tok w1 R) : ItR m m2 e W tok w R := by
  refine ⟨f.trans h.1, ?_⟩
  rcases h.2 with q | ⟨w2, E2, nw2, q1, q2⟩
  · exact Or.inl q
  · exact Or.inr ⟨w2, E2, nw2, by omega, q2⟩
section ITEM
variable {F : Nat} {e W : Nat} {tok : Nat → Int32}
/-- a word is needed -/
theorem needs_1 {m : MS} {w tc : Nat} {x : Int32} (hx : Fx m e W tok tc) (h23 : m.1 23 = nI w) (h24 : m.1 24 = -1) (hw : w ≤ 400) (h : tw tok W w = x) : N_Mo_needs F m x = some (1, sPut m 23 (nI (w + 1))) := by
  unfold N_Mo_needs N_Mo_needs_14
  rw [now_eq (F := F) hx h23 hw, Option.bind_some]
  simp only [h, if_true]
  rw [want_1 (F := F) h24 (x := 1) (by decide), Option.bind_some, if_neg (show ¬ (1 : Int32) = 0 by decide), h23, nI_1]
  rfl
theorem needs_0 {m : MS} {w tc : Nat} {x : Int32} (hx : Fx m e W tok tc) (h23 : m.1 23 = nI w) (h24 : m.1 24 = -1) (hw : w ≤ 400) (h : tw tok W w ≠ x) : ∃ m2, N_Mo_needs F m x = some (0, m2) ∧ FrY e m m2 ∧ m2.1 24 = nI w := by
  refine ⟨sPut (sPut m 24 (nI w)) 23 ((sPut m 24 (nI w)).1 23 + 0), ?_, (FrY.p24 e m (nI w)).trans (FrY.p23 e _ _), by simp [sPut, upd]⟩
  unfold N_Mo_needs N_Mo_needs_14
  rw [now_eq (F := F) hx h23 hw, Option.bind_some]
  simp only [h, if_false]
  rw [want_0 (F := F) h24 h23 hw, Option.bind_some, if_pos rfl]
  rfl
theorem Q.same {m : MS} {E E2 : Ed} {w : Nat} (h : Q m e E w) (h1 : E2.1 2 = E.1 2) (h2 : E2.2 0 = E.2 0) (h3 : E2.2 1 = E.2 1) : Q m e E2 w := by
  unfold Q SN at h ⊢
  rw [h1, h2, h3]
  exact h
theorem Q.st {m : MS} {E : Ed} {w : Nat} (h : Q m e E w) (k i : Nat) (x : Int32) (h1 : k ≠ 19) (h2 : k ≠ 20) : Q (sStI m k i x) e E w :=
  ⟨h.1, h.2.1, h.2.2.1, fun j hj => by simp only [sStI, Ne.symm h1, Ne.symm h2, if_false]; exact h.2.2.2 j hj⟩
theorem Fx.st {m : MS} {tc : Nat} (h : Fx m e W tok tc) (k i : Nat) (x : Int32) (h1 : k ≠ 8) (h2 : k ≠ 9) (h3 : k ≠ 10) : Fx (sStI m k i x) e W tok tc := by
  unfold Fx
  simp only [sStI, Ne.symm h1, Ne.symm h2, Ne.symm h3, if_false]
  exact h
theorem Fx.p23 {m : MS} {tc : Nat} (h : Fx m e W tok tc) (x : Int32) : Fx (sPut m 23 x) e W tok tc := h.fr (FrY.p23 e m x)
theorem sSt_o (m : MS) (k i : Nat) (x : Int32) {j : Nat} (h : j ≠ k) : (sStI m k i x).2.1 j = m.2.1 j := by simp [sStI, h]
theorem sSt_e (m : MS) (k i : Nat) (x : Int32) : (sStI m k i x).2.1 k i = x := by simp [sStI, upd]
theorem sSt_n (m : MS) (k i : Nat) (x : Int32) {j : Nat} (h : j ≠ i) : (sStI m k i x).2.1 k j = m.2.1 k j := by simp [sStI, upd, h]
/-- numbers of a table -/
theorem table_step (htok : ∀ i, i < W → 0 ≤ tok i → ∃ v : Nat, v < 1000000000 ∧ tok i = nI v) {nw t : Nat} (ht8 : t < 8) (w z : Nat) (m : MS) (E : Ed) (n : Nat) (hwW : w ≤ W) (hz : W - w < z) (hE3 : E.1 3 = t + 1) (hn : E.2 3 t = n) (hx : Fx m e W tok t) (hq : Q m e E w) (h13 : m.2.1 13 e = nI (E.1 4)) (hT : TbN m e E t) (hR : RuN m e E (E.1 4)) (hN : ∀ k, k < n → m.2.1 12 (80 * e + 10 * t + k) = nI (E.2 4 (10 * t + k))) (hwf : WFS (E, 1, 0, 0, nw, []) w)
    (ih : ∀ (w2 z2 : Nat) (m2 : MS) (E2 : Ed) (n2 : Nat), w < w2 → w2 ≤ W → W - w2 < z2 → E2.1 3 = t + 1 → E2.2 3 t = n2 → Fx m2 e W tok t → Q m2 e E2 w2 → m2.2.1 13 e = nI (E2.1 4) → TbN m2 e E2 t → RuN m2 e E2 (E2.1 4) → (∀ k, k < n2 → m2.2.1 12 (80 * e + 10 * t + k) = nI (E2.2 4 (10 * t + k))) → WFS (E2, 1, 0, 0, nw, []) w2 → ∃ m3, N_Mo_tableP_41 F z2 m2 (nI t) (nI n2) = some m3 ∧ ItR m2 m3 e W tok w2 (run tok (W - w2) w2 (E2, 1, 0, 0, nw, []))) :
    ∃ m2, N_Mo_tableP_41 F z m (nI t) (nI n) = some m2 ∧ ItR m m2 e W tok w (run tok (W - w) w (E, 1, 0, 0, nw, [])) := by
  obtain ⟨z, rfl⟩ : ∃ y, z = y + 1 := ⟨z - 1, by omega⟩
  have hW4 := hx.2.2.2.1
  have he6 := hx.2.1
  have n0 : ¬ (0 : Int32) ≤ -1 := by decide
  have en := now_eq (F := F) hx hq.2.1 (by omega)
  have hn10 : n ≤ 10 := by
    rcases hwf.2 with q | q
    · have := (q.2.1.2.2.2.2.1 t (by simp only; omega)).1
      simp only at this
      omega
    · have := q.1; simp at this
  have et1 : E.1 3 - 1 = t := by omega
  have pre : N_Mo_tableP_41 F (z + 1) m (nI t) (nI n) = if tw tok W w < 0 then N_Mo_tableP_100 F m (nI t) (nI n) else if 10 ≤ nI n then N_Mo_tableP_100 F m (nI t) (nI n) else ((N_Mo_now F m).bind fun q6 => if (((80 * (m.1 22)) + (10 * nI t)) + nI n) < 0 ∨ 480 ≤ (((80 * (m.1 22)) + (10 * nI t)) + nI n).toNatClampNeg then none else (some (sStI q6.2 12 (((80 * (m.1 22)) + (10 * nI t)) + nI n).toNatClampNeg q6.1)).bind fun y9 => (some (sPut y9 23 ((y9.1 23) + 1))).bind fun y11 => N_Mo_tableP_41 F z y11 (nI t) (nI n + 1)) := by
    show BN_Mo_tableP_41 F (N_Mo_tableP_41 F z) m (nI t) (nI n) = _
    unfold BN_Mo_tableP_41
    rw [hq.2.2.1, if_neg n0, en, Option.bind_some]
    simp only [en]
  rw [pre]
  by_cases ce : tw tok W w < 0 ∨ 10 ≤ n
  · have e100 : (if tw tok W w < 0 then N_Mo_tableP_100 F m (nI t) (nI n) else if 10 ≤ nI n then N_Mo_tableP_100 F m (nI t) (nI n) else ((N_Mo_now F m).bind fun q6 => if (((80 * (m.1 22)) + (10 * nI t)) + nI n) < 0 ∨ 480 ≤ (((80 * (m.1 22)) + (10 * nI t)) + nI n).toNatClampNeg then none else (some (sStI q6.2 12 (((80 * (m.1 22)) + (10 * nI t)) + nI n).toNatClampNeg q6.1)).bind fun y9 => (some (sPut y9 23 ((y9.1 23) + 1))).bind fun y11 => N_Mo_tableP_41 F z y11 (nI t) (nI n + 1))) = N_Mo_tableP_100 F m (nI t) (nI n) := by
      by_cases c1 : tw tok W w < 0
      · rw [if_pos c1]
      · have c3 := ce.resolve_left c1
        have c2 : (10 : Int32) ≤ nI n := nI_le (a := 10) (by omega) (by omega)
        rw [if_neg c1, if_pos c2]
    rw [e100]
    -- the word is no number more
    have bad : w < W → tok w = -19 ∧ 0 < n ∨ run tok (W - w) w (E, 1, 0, 0, nw, []) = .inl w := by
      intro hw
      by_cases c : tok w = -19 ∧ 0 < n
      · exact Or.inl c
      · right
        apply run_bad hw
        unfold tw at ce
        rw [if_pos hw] at ce
        simp only [ta, et1, hn]
        simp only [show ¬ (1 : Nat) = 0 by decide, if_false, if_true]
        by_cases c1 : tok w = -19
        · have : ¬ 0 < n := fun q => c ⟨c1, q⟩
          rw [if_pos c1, if_neg this]
        · rw [if_neg c1]
          by_cases c2 : 0 ≤ tok w
          · have : ¬ tok w < 0 := Int32.not_lt.mpr c2
            have : ¬ n < 10 := by
              rcases ce with q | q
              · exact absurd q this
              · omega
            rw [if_pos c2, if_neg this]
          · rw [if_neg c2]
    by_cases c0 : n = 0
    · subst c0
      refine ⟨sPut m 24 (nI w), ?_, (FrY.p24 e m _).i, Or.inl ⟨w, hwW, by simp [sPut, upd], ?_⟩⟩
      · unfold N_Mo_tableP_100 N_Mo_tableP_110
        rw [if_pos (show nI 0 ≤ 0 by decide), want_0 (F := F) hq.2.2.1 hq.2.1 (by omega), Option.bind_some, if_pos rfl]
      · by_cases cw : w < W
        · exact (bad cw).resolve_left (fun q => by omega)
        · exact run_end (by omega) (by simp)
    · have c0' : ¬ nI n ≤ 0 := nI_nle (by omega) (by omega)
      have e110 : N_Mo_tableP_100 F m (nI t) (nI n) = ((N_Mo_needs F m (-19)).bind fun q4 => if q4.1 = 0 then some q4.2 else if ((8 * (q4.2.1 22)) + nI t) < 0 ∨ 48 ≤ ((8 * (q4.2.1 22)) + nI t).toNatClampNeg then none else (some (sStI q4.2 11 ((8 * (q4.2.1 22)) + nI t).toNatClampNeg (nI n))).bind fun y8 => if (y8.1 22) < 0 ∨ 6 ≤ (y8.1 22).toNatClampNeg then none else if (y8.1 22) < 0 ∨ 6 ≤ (y8.1 22).toNatClampNeg then none else (some (sStI y8 10 (y8.1 22).toNatClampNeg ((y8.2.1 10 (y8.1 22).toNatClampNeg) + 1))).bind fun y12 => some y12) := by
        unfold N_Mo_tableP_100 N_Mo_tableP_110
        rw [if_neg c0', want_1 (F := F) hq.2.2.1 (x := 1) (by decide), Option.bind_some, if_neg (show ¬ (1 : Int32) = 0 by decide)]
      rw [e110]
      by_cases c9 : tw tok W w = -19
      · have cw : w < W := by
          apply Classical.byContradiction
          intro q
          unfold tw at c9
          rw [if_neg q] at c9
          exact absurd c9 (by decide)
        have etw : tw tok W w = tok w := by unfold tw; rw [if_pos cw]
        rw [needs_1 (F := F) hx hq.2.1 hq.2.2.1 (by omega) c9, Option.bind_some]
        have e22 : (sPut m 23 (nI (w + 1))).1 22 = nI e := by simp [sPut, upd]; exact hx.1
        have a3 : nI (8 * e) + nI t = nI (8 * e + t) := nI_add _ _
        have b2 : ¬ (nI (8 * e + t) < 0 ∨ 48 ≤ (nI (8 * e + t)).toNatClampNeg) := nI_in (by omega) (by decide)
        have b3 : (nI (8 * e + t)).toNatClampNeg = 8 * e + t := nI_clamp (by omega)
        have a1 : ¬ (nI e < 0 ∨ 6 ≤ (nI e).toNatClampNeg) := nI_in (by omega) (by decide)
        have a2 : (nI e).toNatClampNeg = e := nI_clamp (by omega)
        have e10 : (sStI (sPut m 23 (nI (w + 1))) 11 (8 * e + t) (nI n)).2.1 10 e = nI t := by rw [sSt_o _ _ _ _ (by decide)]; exact hx.2.2.2.2.2
        have eta : ta (E, 1, 0, 0, nw, []) w (tok w) = some (E, 0, 0, 0, nw, []) := by
          rw [etw] at c9
          simp only [ta, et1, hn, c9]
          simp
          omega
        have hwf2 := ta_wf (fun q => absurd q (by rw [← etw, c9]; decide)) hwf eta
        have f1 := FrI.st (e := e) (sPut m 23 (nI (w + 1))) 11 (8 * e + t) (nI n) (by decide) (by simp [lim])
        have f2 := FrI.st (e := e) (sStI (sPut m 23 (nI (w + 1))) 11 (8 * e + t) (nI n)) 10 e (nI (t + 1)) (by decide) (by simp [lim])
        refine ⟨sStI (sStI (sPut m 23 (nI (w + 1))) 11 (8 * e + t) (nI n)) 10 e (nI (t + 1)), ?_, ((FrY.p23 e m _).i.trans f1).trans f2, Or.inr ⟨w + 1, E, nw, by omega, by omega, ?_, hwf2, run_step cw eta⟩⟩
        · simp only [show ¬ (1 : Int32) = 0 by decide, if_false]
          rw [e22, nI_8, a3, if_neg b2, b3, Option.bind_some]
          have e22b : (sStI (sPut m 23 (nI (w + 1))) 11 (8 * e + t) (nI n)).1 22 = nI e := e22
          rw [e22b, if_neg a1, if_neg a1, a2, e10, nI_1, Option.bind_some]
        · have s11 : (sStI (sStI (sPut m 23 (nI (w + 1))) 11 (8 * e + t) (nI n)) 10 e (nI (t + 1))).2.1 11 = (sStI (sPut m 23 (nI (w + 1))) 11 (8 * e + t) (nI n)).2.1 11 := sSt_o _ _ _ _ (by decide)
          have sO : ∀ k, k ≠ 10 → k ≠ 11 → (sStI (sStI (sPut m 23 (nI (w + 1))) 11 (8 * e + t) (nI n)) 10 e (nI (t + 1))).2.1 k = m.2.1 k := fun k h1 h2 => (sSt_o _ _ _ _ h1).trans (sSt_o _ _ _ _ h2)
          refine ⟨?_, ((hq.adv (v := w + 1)).st _ _ _ (by decide) (by decide)).st _ _ _ (by decide) (by decide), ?_, ?_, ?_⟩
          · have h2 := (hx.p23 (nI (w + 1))).st 11 (8 * e + t) (nI n) (by decide) (by decide) (by decide)
            refine ⟨h2.1, h2.2.1, ?_, h2.2.2.2.1, ?_, ?_⟩
            · rw [sSt_o _ _ _ _ (by decide)]; exact h2.2.2.1
            · rw [sSt_o _ _ _ _ (by decide)]; exact h2.2.2.2.2.1
            · rw [sSt_e, hE3]
          · rw [sSt_o _ _ _ _ (by decide), sSt_o _ _ _ _ (by decide)]; exact h13
          · rw [hE3]
            intro t2 ht2
            rw [s11, sO 12 (by decide) (by decide)]
            by_cases c : t2 = t
            · subst c
              rw [sSt_e, hn]
              exact ⟨rfl, hN⟩
            · rw [sSt_n _ _ _ _ (by omega)]
              exact hT t2 (by omega)
          · intro k hk
            rw [sO 17 (by decide) (by decide), sO 14 (by decide) (by decide), sO 18 (by decide) (by decide), sO 15 (by decide) (by decide), sO 16 (by decide) (by decide)]
            exact hR k hk
      · obtain ⟨m2, x2, f2, y2⟩ := needs_0 (F := F) hx hq.2.1 hq.2.2.1 (by omega) c9
        refine ⟨m2, by rw [x2, Option.bind_some]; rfl, f2.i, Or.inl ⟨w, hwW, y2, ?_⟩⟩
        by_cases cw : w < W
        · have etw : tw tok W w = tok w := by unfold tw; rw [if_pos cw]
          exact (bad cw).resolve_left (fun q => c9 (by rw [etw]; exact q.1))
        · exact run_end (by omega) (by simp)
  · have c1 : ¬ tw tok W w < 0 := fun q => ce (Or.inl q)
    have c2 : n < 10 := by
      apply Classical.byContradiction
      intro q
      exact ce (Or.inr (by omega))
    have c2' : ¬ (10 : Int32) ≤ nI n := nI_ge (a := n) (b := 10) c2 (by omega)
    have cw : w < W := by
      apply Classical.byContradiction
      intro q
      apply c1
      unfold tw
      rw [if_neg q]
      decide
    have etw : tw tok W w = tok w := by unfold tw; rw [if_pos cw]
    rw [etw] at c1 en
    have c1' : 0 ≤ tok w := Int32.not_lt.mp c1
    obtain ⟨v, hv, ev⟩ := htok w cw c1'
    have ecl : (tok w).toNatClampNeg = v := by rw [ev]; exact nI_clamp (by omega)
    have eta : ta (E, 1, 0, 0, nw, []) w (tok w) = some (setR (setR E 4 (10 * t + n) v) 3 t (n + 1), 1, 0, 0, nw, []) := by
      have n19 : ¬ tok w = -19 := fun q => by rw [q] at c1'; exact absurd c1' (by decide)
      simp only [ta, et1, hn, n19, c1', c2, if_true, if_false, ecl, adN]
      simp
    have hwf2 := ta_wf (fun _ => by rw [ecl]; exact hv) hwf eta
    have a3 : nI (80 * e) + nI (10 * t) = nI (80 * e + 10 * t) := nI_add _ _
    have a4 : nI (80 * e + 10 * t) + nI n = nI (80 * e + 10 * t + n) := nI_add _ _
    have b2 : ¬ (nI (80 * e + 10 * t + n) < 0 ∨ 480 ≤ (nI (80 * e + 10 * t + n)).toNatClampNeg) := nI_in (by omega) (by decide)
    have b3 : (nI (80 * e + 10 * t + n)).toNatClampNeg = 80 * e + 10 * t + n := nI_clamp (by omega)
    have f1 := FrI.st (e := e) m 12 (80 * e + 10 * t + n) (tok w) (by decide) (by simp [lim]; omega)
    have hx2 := (hx.st 12 (80 * e + 10 * t + n) (tok w) (by decide) (by decide) (by decide)).p23 (nI (w + 1))
    have hq2 : Q (sPut (sStI m 12 (80 * e + 10 * t + n) (tok w)) 23 (nI (w + 1))) e (setR (setR E 4 (10 * t + n) v) 3 t (n + 1)) (w + 1) := ((hq.st 12 (80 * e + 10 * t + n) (tok w) (by decide) (by decide)).adv (v := w + 1)).same rfl (by simp [setR]) (by simp [setR])
    have hm : (sPut (sStI m 12 (80 * e + 10 * t + n) (tok w)) 23 (nI (w + 1))).2.1 = (sStI m 12 (80 * e + 10 * t + n) (tok w)).2.1 := rfl
    obtain ⟨m3, x3, y3⟩ := ih (w + 1) z (sPut (sStI m 12 (80 * e + 10 * t + n) (tok w)) 23 (nI (w + 1))) (setR (setR E 4 (10 * t + n) v) 3 t (n + 1)) (n + 1) (by omega) (by omega) (by omega) hE3 (by rw [setR_e]) hx2 hq2 (by
        rw [hm, sSt_o _ _ _ _ (by decide)]; exact h13) (by
        intro t2 ht2
        obtain ⟨u1, u2⟩ := hT t2 ht2
        rw [hm, sSt_o _ _ _ _ (by decide), setR_n _ _ _ _ (by omega), setR_o _ _ _ _ (by decide), setR_o _ _ _ _ (by decide)]
        refine ⟨u1, fun k hk => ?_⟩
        have hk10 : E.2 3 t2 ≤ 10 := by
          rcases hwf.2 with q | q
          · exact (q.2.1.2.2.2.2.1 t2 (by simp only; omega)).1
          · have := q.1; simp at this
        rw [sSt_n _ _ _ _ (by omega), setR_n _ _ _ _ (by omega)]
        exact u2 k hk) (by
        intro k hk
        rw [hm, sSt_o _ _ _ _ (by decide), sSt_o _ _ _ _ (by decide), sSt_o _ _ _ _ (by decide), sSt_o _ _ _ _ (by decide), sSt_o _ _ _ _ (by decide)]
        simp only [setR]
        simp
        exact hR k hk) (by
        intro k hk
        rw [hm, setR_o _ _ _ _ (by decide)]
        by_cases c : k = n
        · subst c
          rw [sSt_e, setR_e, ev]
        · rw [sSt_n _ _ _ _ (by omega), setR_n _ _ _ _ (by omega)]
          exact hN k (by omega)) hwf2
    refine ⟨m3, ?_, ?_⟩
    · rw [etw, if_neg c1, if_neg c2', en, Option.bind_some, hx.1, nI_80, nI_10', a3, a4]
      simp only [b2, if_false]
      have e23 : (sStI m 12 (80 * e + 10 * t + n) (tok w)).1 23 = nI w := hq.2.1
      rw [b3, Option.bind_some, e23, nI_1, nI_1, Option.bind_some]
      exact x3
    · rw [run_step cw eta]
      exact ItR.pre (f1.trans (FrY.p23 e _ _).i) (by omega) y3
theorem table_loop (htok : ∀ i, i < W → 0 ≤ tok i → ∃ v : Nat, v < 1000000000 ∧ tok i = nI v) {nw t : Nat} (ht8 : t < 8) : ∀ (D w z : Nat) (m : MS) (E : Ed) (n : Nat), w ≤ W → W - w ≤ D → W - w < z → E.1 3 = t + 1 → E.2 3 t = n → Fx m e W tok t → Q m e E w → m.2.1 13 e = nI (E.1 4) → TbN m e E t → RuN m e E (E.1 4) → (∀ k, k < n → m.2.1 12 (80 * e + 10 * t + k) = nI (E.2 4 (10 * t + k))) → WFS (E, 1, 0, 0, nw, []) w →
    ∃ m2, N_Mo_tableP_41 F z m (nI t) (nI n) = some m2 ∧ ItR m m2 e W tok w (run tok (W - w) w (E, 1, 0, 0, nw, [])) := by
  intro D
  induction D with
  | zero =>
    intro w z m E n h1 h2 h3 h4 h5 h6 h7 h8 h9 h10 h11 h12
    exact table_step htok ht8 w z m E n h1 h3 h4 h5 h6 h7 h8 h9 h10 h11 h12 (fun w2 z2 m2 E2 n2 g1 g2 => by omega)
  | succ D ih =>
    intro w z m E n h1 h2 h3 h4 h5 h6 h7 h8 h9 h10 h11 h12
    exact table_step htok ht8 w z m E n h1 h3 h4 h5 h6 h7 h8 h9 h10 h11 h12 (fun w2 z2 m2 E2 n2 g1 g2 g3 => ih w2 z2 m2 E2 n2 g2 (by omega) g3)
theorem table_eq (htok : ∀ i, i < W → 0 ≤ tok i → ∃ v : Nat, v < 1000000000 ∧ tok i = nI v) (hF : 900 < F) {m : MS} {E : Ed} {nw w : Nat} (hw : w < W) (h : NI m e W tok E w) (hwf : WFS (E, 0, 0, 0, nw, []) w) (ht : tok w = -1) : ∃ m2, N_Mo_tableP F m = some m2 ∧ ItR m m2 e W tok w (run tok (W - w) w (E, 0, 0, 0, nw, [])) := by
  obtain ⟨hx, hq, h13, hT, hR⟩ := h
  have hW4 := hx.2.2.2.1
  have he6 := hx.2.1
  have a1 : ¬ (nI e < 0 ∨ 6 ≤ (nI e).toNatClampNeg) := nI_in (by omega) (by decide)
  have a2 : (nI e).toNatClampNeg = e := nI_clamp (by omega)
  have h8 : E.1 3 ≤ 8 := by
    rcases hwf.2 with q | q
    · exact q.2.1.2.1
    · have := q.1; simp at this
  by_cases c : E.1 3 < 8
  · have c' : ¬ (8 : Int32) ≤ nI (E.1 3) := nI_ge (a := E.1 3) (b := 8) c (by omega)
    have eta : ta (E, 0, 0, 0, nw, []) w (tok w) = some (bgT E, 1, 0, 0, nw, []) := by
      simp [ta, ht, c]
    have hwf2 := ta_wf (fun q => absurd q (by rw [ht]; decide)) hwf eta
    have hq2 : Q (sPut m 23 (nI (w + 1))) e (bgT E) (w + 1) := (hq.adv (v := w + 1)).same (by simp [bgT, setS, setR]) (by simp [bgT, setS, setR]) (by simp [bgT, setS, setR])
    obtain ⟨m3, x3, y3⟩ := table_loop (F := F) htok c (W - (w + 1)) (w + 1) F (sPut m 23 (nI (w + 1))) (bgT E) 0 (by omega) (Nat.le_refl _) (by omega) (by simp [bgT, setS]) (by simp [bgT, setS, setR]) (hx.p23 _) hq2 (by
        have : (bgT E).1 4 = E.1 4 := by simp [bgT, setS, setR]
        rw [this]; exact h13) (by
        intro t2 ht2
        have n2 : ¬ t2 = E.1 3 := by omega
        have : (bgT E).2 3 t2 = E.2 3 t2 := by simp [bgT, setS, setR, n2]
        have e4 : (bgT E).2 4 = E.2 4 := by simp [bgT, setS, setR]
        rw [this, e4]
        exact hT t2 ht2) (by
        have : (bgT E).1 4 = E.1 4 := by simp [bgT, setS, setR]
        rw [this]
        intro k hk
        have := hR k hk
        simp only [bgT, setS, setR]
        simp
        exact this) (fun k hk => by omega) hwf2
    refine ⟨m3, ?_, ?_⟩
    · unfold N_Mo_tableP N_Mo_tableP_22
      rw [hx.1, if_neg a1, a2, hx.2.2.2.2.2, if_neg c', want_1 (F := F) hq.2.2.1 (x := 1) (by decide), Option.bind_some, if_neg (show ¬ (1 : Int32) = 0 by decide), hq.2.1, nI_1, Option.bind_some]
      exact x3
    · rw [run_step hw eta]
      exact ItR.pre (FrY.p23 e m _).i (by omega) y3
  · have e8 : E.1 3 = 8 := by omega
    refine ⟨sPut m 24 (nI w), ?_, (FrY.p24 e m _).i, Or.inl ⟨w, by omega, by simp [sPut, upd], run_bad hw (by simp [ta, ht, c])⟩⟩
    unfold N_Mo_tableP N_Mo_tableP_22
    rw [hx.1, if_neg a1, a2, hx.2.2.2.2.2, e8, if_pos (show (8 : Int32) ≤ nI 8 by decide), want_0 (F := F) hq.2.2.1 hq.2.1 (by omega), Option.bind_some, if_pos rfl]
end ITEM
