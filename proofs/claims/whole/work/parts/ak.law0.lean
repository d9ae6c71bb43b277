/-! THE LOOKUP OF table CHANGES NOTHING -/
theorem p_edition8 {F : Nat} : ∀ (z : Nat) (h : hH) (x0 : Nat) (x1 x2 : Int32) (q : Option Nat × hH), M_LT_editionOn_8 F z h x0 x1 x2 = some q → q.2 = h := by
  intro z
  induction z with
  | zero => intro h x0 x1 x2 q e; cases e
  | succ z ih =>
    intro h x0 x1 x2 q e
    have e : B_LT_editionOn_8 F (M_LT_editionOn_8 F z) h x0 x1 x2 = some q := e
    unfold B_LT_editionOn_8 M_LT_editionOn_33 at e
    by_cases c : x2 < 0
    · rw [if_pos c] at e; cases e; rfl
    · rw [if_neg c] at e
      obtain ⟨v2, -, e⟩ := hb_some e
      obtain ⟨v3, -, e⟩ := hb_some e
      cases v3 with
      | none => exact ih _ _ _ _ _ e
      | some a5 =>
        simp only [hCase] at e
        obtain ⟨v6, -, e⟩ := hb_some e
        by_cases c2 : x1 < v6
        · rw [if_pos c2] at e; exact ih _ _ _ _ _ e
        · rw [if_neg c2] at e; cases e; rfl
theorem p_edition {F : Nat} {h : hH} {x0 : Nat} {x1 : Int32} {q : Option Nat × hH} (e : M_LT_editionOn F h x0 x1 = some q) : q.2 = h := by
  unfold M_LT_editionOn at e
  obtain ⟨v1, -, e⟩ := hb_some e
  obtain ⟨v2, -, e⟩ := hb_some e
  exact p_edition8 _ _ _ _ _ _ e
theorem p_number {F : Nat} {h : hH} {x0 : Nat} {x1 : Int32} {x2 : Int64} {q : Int32 × hH} (e : M_Tables_numberAt F h x0 x1 x2 = some q) : q.2 = h := by
  unfold M_Tables_numberAt at e
  by_cases c1 : x1 < 0
  · rw [if_pos c1] at e; cases e; rfl
  · rw [if_neg c1] at e
    obtain ⟨v2, -, e⟩ := hb_some e
    by_cases c2 : v2 ≤ x1
    · rw [if_pos c2] at e; cases e; rfl
    · rw [if_neg c2] at e
      obtain ⟨v4, -, e⟩ := hb_some e
      obtain ⟨v5, -, e⟩ := hb_some e
      by_cases c3 : v5 ≤ x1
      · rw [if_pos c3] at e; cases e; rfl
      · rw [if_neg c3] at e
        by_cases c4 : (lg_cmp x2 0) < 0
        · rw [if_pos c4] at e; cases e; rfl
        · rw [if_neg c4] at e
          obtain ⟨v8, -, e⟩ := hb_some e
          obtain ⟨v9, -, e⟩ := hb_some e
          by_cases c5 : (lg_cmp x2 v9.toInt64) < 0
          · rw [if_pos c5] at e
            by_cases c6 : ((x1 * 10) + x2.toInt32) < 0
            · rw [if_pos c6] at e; cases e; rfl
            · rw [if_neg c6] at e
              obtain ⟨v12, -, e⟩ := hb_some e
              obtain ⟨v13, -, e⟩ := hb_some e
              by_cases c7 : v13 ≤ ((x1 * 10) + x2.toInt32)
              · rw [if_pos c7] at e; cases e; rfl
              · rw [if_neg c7] at e
                obtain ⟨v15, -, e⟩ := hb_some e
                obtain ⟨v16, -, e⟩ := hb_some e
                cases e; rfl
          · rw [if_neg c5] at e; cases e; rfl
theorem NumAt.eq {F : Nat} {h h2 : hH} {x0 : Nat} {x1 x2 x3 r : Int32} (N : NumAt F h x0 x1 x2 x3 r h2) : h2 = h := by
  rcases N with ⟨e, -⟩ | ⟨a, h1, v, e, -, -, e2⟩
  · exact p_edition e
  · exact (p_number e2).trans (p_edition e)
/-- table's answer, or its throw, as the reference has it -/
theorem cr_table {x mm j : Nat} {hX hM : hH} {m : MS} {ad : Nat → Nat} (C : CI x j hX m) (R : RepM ad mm hM m) (u w y : Int32) : ∃ (r b : Int32) (m2 : MS), NumAt FU hX x u w y r hX ∧ CI x (j + 1) hX m2 ∧ (∀ z, ∃ hM2, M_Mo_table FU (z, hM.2) mm u w y = some (b, hM2) ∧ RepM ad mm hM2 m2) ∧ ((r = -1 ∧ m2.1 0 = 1) ∨ (r ≠ -1 ∧ m2.1 0 = 0 ∧ b = r)) := by
  obtain ⟨s, a, n, rc, Es, nt, v, B, RX, I, h0, hB⟩ := C
  subst h0
  obtain ⟨e1, e2⟩ := table_inv (F := FU) I (by decide) u w y
  obtain ⟨hX2, f1, R2⟩ := x_LT_editionOn RX e1
  have hE := p_edition f1
  simp only at hE f1
  subst hE
  rcases e2 with ⟨q1, q2⟩ | ⟨e, q1, q2, q3, q4, q5⟩
  · rw [q1] at f1
    exact ⟨-1, 0, sPut m 0 1, Or.inl ⟨f1, rfl⟩, ⟨s, a, n, rc, Es, nt, v, B, RX, I.code 1, rfl, by omega⟩, fun z => n_Mo_table (h := (z, hM.2)) R q2, Or.inl ⟨rfl, by simp [sPut, upd]⟩⟩
  · rw [q1] at f1
    have hg : hGetA hX2 (a (eR e 0)) 1 2 = some (a (eR e 9)) := xr_A RX (by simp [xGetA, q3, q2, xInt, xN])
    have hi : hIs hX2 (a (eR e 9)) 8 = some () := xr_Is RX (by simp [xIs, q4])
    rcases q5 with ⟨g1, g2⟩ | ⟨k, hk, g1, g2⟩
    · obtain ⟨hX3, f2, R3⟩ := x_Tables_numberAt RX g1
      have hE2 := p_number f2
      simp only at hE2
      subst hE2
      exact ⟨-1, 0, sPut m 0 1, Or.inr ⟨_, _, _, f1, hg, hi, f2⟩, ⟨s, a, n, rc, Es, nt, v, B, RX, I.code 1, rfl, by omega⟩, fun z => n_Mo_table (h := (z, hM.2)) R g2, Or.inl ⟨rfl, by simp [sPut, upd]⟩⟩
    · obtain ⟨hX3, f2, R3⟩ := x_Tables_numberAt RX g1
      have hE2 := p_number f2
      simp only at hE2
      subst hE2
      exact ⟨nI k, nI k, sPut m 0 0, Or.inr ⟨_, _, _, f1, hg, hi, f2⟩, ⟨s, a, n, rc, Es, nt, v, B, RX, I.code 0, rfl, by omega⟩, fun z => n_Mo_table (h := (z, hM.2)) R g2, Or.inr ⟨nI_ne_m1 (by omega), by simp [sPut, upd], rfl⟩⟩
theorem hJ_self {h g : hH} (hs : Sub g h) : hJ h g g = h := by
  apply Prod.ext
  · exact hs.1
  · funext q
    simp only [hJ]
    cases hq : g.2 q with
    | none => rfl
    | some x => exact (hs.2 q x hq).symm
theorem hJ_up {h g : hH} (hs : Sub g h) : hJ h g (g.1 + 1, g.2) = (h.1 + 1, h.2) := by
  apply Prod.ext
  · show g.1 + 1 = h.1 + 1
    rw [hs.1]
  · funext q
    simp only [hJ]
    cases hq : g.2 q with
    | none => rfl
    | some x => exact (hs.2 q x hq).symm
