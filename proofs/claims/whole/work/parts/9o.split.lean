/-! SPLIT -/
section SPLIT
variable {F : Nat} {e nt : Nat}
/-- the words below c are recorded, as the tape up to k has them -/
def Wrd (m : MS) (g : Nat → Int32) (e k c : Nat) : Prop := ∀ i, i < c → m.2.1 6 (400 * e + i) = nI (wb g k i) ∧ m.2.1 7 (400 * e + i) = nI (we g k i - wb g k i) ∧ m.2.1 8 (400 * e + i) = tk g (wb g k i) (we g k i)
def FrP (e : Nat) (m m2 : MS) : Prop := FrM m m2 [] [5, 6, 7, 8, 9] [] ∧ (∀ j, j < 400 * e → m2.2.1 6 j = m.2.1 6 j ∧ m2.2.1 7 j = m.2.1 7 j) ∧ ∀ j, j < 800 * e → m2.2.1 5 j = m.2.1 5 j
theorem FrP.refl (e : Nat) (m : MS) : FrP e m m := ⟨FrM.refl m _ _ _, fun _ _ => ⟨rfl, rfl⟩, fun _ _ => rfl⟩
theorem FrP.trans {m m2 m3 : MS} (h : FrP e m m2) (g : FrP e m2 m3) : FrP e m m3 := ⟨h.1.trans g.1, fun j hj => ⟨((g.2.1 j hj).1).trans (h.2.1 j hj).1, ((g.2.1 j hj).2).trans (h.2.1 j hj).2⟩, fun j hj => (g.2.2 j hj).trans (h.2.2 j hj)⟩
/-- the copy of the tape -/
theorem split_copy (he : e < 6) (h8 : nt ≤ 800) {g : Nat → Int32} (hg : nrm g nt) : ∀ (d j z : Nat) (m : MS), j + d = nt → d < z → m.1 22 = nI e → m.1 2 = nI nt → m.2.1 1 = g → (∀ i, i < j → m.2.1 5 (800 * e + i) = g i) → ∃ m2, N_Mo_split_123 F z m (nI j) = some m2 ∧ FrM m m2 [] [5] [] ∧ (∀ i, i < nt → m2.2.1 5 (800 * e + i) = g i) ∧ ∀ i, i < 800 * e → m2.2.1 5 i = m.2.1 5 i := by
  intro d
  induction d with
  | zero =>
    intro j z m hj hz h22 h2 h1 hc
    obtain ⟨z, rfl⟩ : ∃ y, z = y + 1 := ⟨z - 1, by omega⟩
    have b1 : nI nt ≤ nI j := nI_le (by omega) (by omega)
    refine ⟨m, ?_, FrM.refl m _ _ _, fun i hi => hc i (by omega), fun _ _ => rfl⟩
    simp [N_Mo_split_123, BN_Mo_split_123, h2, b1]
  | succ d ih =>
    intro j z m hj hz h22 h2 h1 hc
    obtain ⟨z, rfl⟩ : ∃ y, z = y + 1 := ⟨z - 1, by omega⟩
    have b1 : ¬ nI nt ≤ nI j := nI_ge (by omega) (by omega)
    have b2 : ¬ (nI j < 0 ∨ 800 ≤ (nI j).toNatClampNeg) := nI_in (by omega) (by decide)
    have b3 : (nI j).toNatClampNeg = j := nI_clamp (by omega)
    have b4 : nI (800 * e) + nI j = nI (800 * e + j) := nI_add _ _
    have b5 : ¬ (nI (800 * e + j) < 0 ∨ 4800 ≤ (nI (800 * e + j)).toNatClampNeg) := nI_in (by omega) (by decide)
    have b6 : (nI (800 * e + j)).toNatClampNeg = 800 * e + j := nI_clamp (by omega)
    have hv : (m.2.1 1 j).toInt8.toInt32 = g j := by rw [h1]; exact hg j (by omega)
    obtain ⟨m2, e2, g2, c2, k2⟩ := ih (j + 1) z (sStI m 5 (800 * e + j) (g j)) (by omega) (by omega) h22 h2 (by simp [sStI, h1]) (fun i hi => by
      by_cases c : i = j
      · subst c; simp [sStI, upd]
      · have := hc i (by omega)
        simp [sStI, upd, c, this])
    have gs : FrM m (sStI m 5 (800 * e + j) (g j)) [] [5] [] := ⟨fun _ _ => rfl, fun k hk => by simp at hk; simp [sStI, hk], fun _ _ => rfl⟩
    refine ⟨m2, ?_, gs.trans g2, c2, fun i hi => ?_⟩
    · rw [← e2]
      show BN_Mo_split_123 F (N_Mo_split_123 F z) m (nI j) = _
      unfold BN_Mo_split_123
      rw [h2, if_neg b1, if_neg b2, h22, nI_800, b4, if_neg b5, b6, b3, hv, Option.bind_some, nI_1]
    · rw [k2 i hi]
      have : i ≠ 800 * e + j := by omega
      simp [sStI, upd, this]
/-- within a word -/
theorem split_in (h8 : nt ≤ 800) {g : Nat → Int32} {c at0 : Nat} {r4 : MS → Int32 → Int32 → Option MS} {m : MS} (h2 : m.1 2 = nI nt) (h1 : m.2.1 1 = g) : ∀ (d k z : Nat), k + d = nt → d < z → at0 ≤ k → (∀ i, at0 ≤ i → i < k → isB (g i) = false) →
    ∃ k2, k ≤ k2 ∧ k2 ≤ nt ∧ (∀ i, at0 ≤ i → i < k2 → isB (g i) = false) ∧ (k2 < nt → isB (g k2) = true) ∧ N_Mo_split_14 F r4 z m (nI c) (nI k) (nI at0) = N_Mo_split_40 F r4 m (nI c) (nI k2) (nI at0) := by
  intro d
  induction d with
  | zero =>
    intro k z hk hz ha hb
    obtain ⟨z, rfl⟩ : ∃ y, z = y + 1 := ⟨z - 1, by omega⟩
    have b1 : nI nt ≤ nI k := nI_le (by omega) (by omega)
    refine ⟨k, by omega, by omega, hb, fun q => by omega, ?_⟩
    simp [N_Mo_split_14, BN_Mo_split_14, h2, b1]
  | succ d ih =>
    intro k z hk hz ha hb
    obtain ⟨z, rfl⟩ : ∃ y, z = y + 1 := ⟨z - 1, by omega⟩
    have b1 : ¬ nI nt ≤ nI k := nI_ge (by omega) (by omega)
    have b2 : ¬ nI k < 0 := nI_pos (by omega)
    have b3 : (nI k).toNatClampNeg = k := nI_clamp (by omega)
    have b4 : ¬ 800 ≤ k := by omega
    have eb : N_Mo_isBlank F m (g k) = some (if isB (g k) then 1 else 0, m) := by
      unfold N_Mo_isBlank isB
      by_cases c1 : g k = 32
      · simp [c1]
      · by_cases c2 : g k = 10
        · simp [c2]
        · simp [c1, c2]
    cases hg : isB (g k) with
    | true =>
      rw [hg] at eb
      refine ⟨k, by omega, by omega, hb, fun _ => hg, ?_⟩
      simp [N_Mo_split_14, BN_Mo_split_14, h2, b1, b2, b3, b4, h1, eb]
    | false =>
      rw [hg] at eb
      obtain ⟨k2, q1, q2, q3, q4, q5⟩ := ih (k + 1) z (by omega) (by omega) (by omega) (fun i h1 h2 => by
        by_cases c : i = k
        · rw [c]; exact hg
        · exact hb i h1 (by omega))
      refine ⟨k2, by omega, q2, q3, q4, ?_⟩
      rw [← q5]
      simp [N_Mo_split_14, BN_Mo_split_14, h2, b1, b2, b3, b4, h1, eb, nI_1]
/-- the words of a stretch without blanks -/
theorem w_stretch {g : Nat → Int32} {a0 : Nat} (h0 : inW g a0 = false) : ∀ p, a0 < p → (∀ i, a0 ≤ i → i < p → isB (g i) = false) → inW g p = true ∧ wc g p = wc g a0 + 1 ∧ wb g p (wc g a0) = a0 ∧ we g p (wc g a0) = p ∧ ∀ i, i < wc g a0 → wb g p i = wb g a0 i ∧ we g p i = we g a0 i := by
  intro p
  induction p with
  | zero => intro h; omega
  | succ p ih =>
    intro hp hb
    have hbp := hb p (by omega) (by omega)
    have k0 : inW g (p + 1) = true := by simp only [inW]; rw [hbp]; rfl
    by_cases c : a0 = p
    · subst c
      have k1 : wc g (a0 + 1) = wc g a0 + 1 := by simp only [wc]; rw [hbp, h0]; rfl
      refine ⟨k0, k1, ?_, ?_, fun i hi => ⟨?_, ?_⟩⟩
      · simp only [wb]; rw [hbp, h0]; simp
      · show (if isB (g a0) then we g a0 (wc g a0) else if wc g a0 + 1 = wc g (a0 + 1) then a0 + 1 else we g a0 (wc g a0)) = a0 + 1
        rw [hbp, k1]; simp
      · have : ¬ i = wc g a0 := by omega
        simp only [wb]; rw [hbp, h0]; simp [this]
      · show (if isB (g a0) then we g a0 i else if i + 1 = wc g (a0 + 1) then a0 + 1 else we g a0 i) = _
        have : ¬ i = wc g a0 := by omega
        rw [hbp, k1]; simp [this]
    · obtain ⟨i0, i1, i2, i3, i4⟩ := ih (by omega) (fun i h1 h2 => hb i h1 (by omega))
      have k1 : wc g (p + 1) = wc g a0 + 1 := by simp only [wc]; rw [hbp, i0, i1]; rfl
      have k2 : ∀ i, wb g (p + 1) i = wb g p i := fun i => by simp only [wb]; rw [hbp, i0]; rfl
      have k3 : ∀ i, we g (p + 1) i = if i = wc g a0 then p + 1 else we g p i := fun i => by
        show (if isB (g p) then we g p i else if i + 1 = wc g (p + 1) then p + 1 else we g p i) = _
        rw [hbp, k1]
        by_cases c : i = wc g a0
        · simp [c]
        · simp [c]
      refine ⟨k0, k1, by rw [k2]; exact i2, by rw [k3]; simp, fun i hi => ?_⟩
      rw [k2, k3, if_neg (by omega)]
      exact i4 i hi
theorem w_blank {g : Nat → Int32} {k : Nat} (h : isB (g k) = true) : inW g (k + 1) = false ∧ wc g (k + 1) = wc g k ∧ ∀ i, wb g (k + 1) i = wb g k i ∧ we g (k + 1) i = we g k i := by
  refine ⟨by simp only [inW]; rw [h]; rfl, by simp only [wc]; rw [h]; rfl, fun i => ⟨by simp only [wb]; rw [h]; rfl, by simp only [we]; rw [h]; rfl⟩⟩
theorem split_out (he : e < 6) (h8 : nt ≤ 800) {g : Nat → Int32} (hg : nrm g nt) (hF : 900 < F) : ∀ (D k d z : Nat) (m : MS), d ≤ D → k + d = nt → d + 1 < z → m.1 22 = nI e → m.1 2 = nI nt → m.2.1 1 = g → inW g k = false → Wrd m g e k (wc g k) →
    ∃ m2, N_Mo_split_4 F z m (nI (wc g k)) (nI k) = some m2 ∧ FrP e m m2 ∧ m2.2.1 9 e = nI (wc g nt) ∧ Wrd m2 g e nt (wc g nt) ∧ ∀ i, i < nt → m2.2.1 5 (800 * e + i) = g i := by
  have e1 : ¬ nI e < 0 := nI_pos (by omega)
  have e2 : (nI e).toNatClampNeg = e := nI_clamp (by omega)
  have e3 : ¬ 6 ≤ e := by omega
  have hwcle : ∀ k, k ≤ 800 → wc g k ≤ 400 := by
    intro k hk
    have hle := wc_le g k
    cases h : inW g k with
    | true => have := hle.1 h; omega
    | false => have := hle.2 h; omega
  -- the end
  have fin : ∀ (z k : Nat) (m : MS), 0 < z → nt ≤ k → k ≤ nt + 1 → m.1 22 = nI e → m.1 2 = nI nt → m.2.1 1 = g → Wrd m g e nt (wc g nt) → ∃ m2, N_Mo_split_4 F z m (nI (wc g nt)) (nI k) = some m2 ∧ FrP e m m2 ∧ m2.2.1 9 e = nI (wc g nt) ∧ Wrd m2 g e nt (wc g nt) ∧ ∀ i, i < nt → m2.2.1 5 (800 * e + i) = g i := by
    intro z k m hz h1 h2 h22 hn hgm hW
    obtain ⟨z, rfl⟩ : ∃ y, z = y + 1 := ⟨z - 1, by omega⟩
    have b1 : nI nt ≤ nI k := nI_le (by omega) (by omega)
    obtain ⟨m2, e4, g4, c4, k4⟩ := split_copy (F := F) he h8 hg nt 0 F (sStI m 9 e (nI (wc g nt))) (by omega) (by omega) h22 hn (by simp [sStI, hgm]) (fun i hi => by omega)
    have gf : FrM m (sStI m 9 e (nI (wc g nt))) [] [5, 6, 7, 8, 9] [] := ⟨fun _ _ => rfl, fun k hk => by simp at hk; simp [sStI, hk], fun _ _ => rfl⟩
    refine ⟨m2, ?_, ⟨gf.trans (g4.mono (by simp) (by simp) (by simp)), fun j hj => ?_, fun j hj => ?_⟩, ?_, fun i hi => ?_, c4⟩
    · rw [nIk0] at e4
      simp [N_Mo_split_4, BN_Mo_split_4, hn, b1, h22, e1, e2, e3, e4]
    · rw [g4.2.1 6 (by decide), g4.2.1 7 (by decide)]
      simp [sStI]
    · rw [k4 j hj]; simp [sStI]
    · rw [g4.2.1 9 (by decide)]; simp [sStI, upd]
    · rw [g4.2.1 6 (by decide), g4.2.1 7 (by decide), g4.2.1 8 (by decide)]
      simp only [sStI]
      exact hW i hi
  intro D
  induction D with
  | zero =>
    intro k d z m hD hk hz h22 hn hgm hi hW
    have ek : k = nt := by omega
    subst ek
    exact fin z k m (by omega) (by omega) (by omega) h22 hn hgm hW
  | succ D ih =>
    intro k d z m hD hk hz h22 hn hgm hi hW
    by_cases hd : d = 0
    · have ek : k = nt := by omega
      subst ek
      exact fin z k m (by omega) (by omega) (by omega) h22 hn hgm hW
    · obtain ⟨z, rfl⟩ : ∃ y, z = y + 1 := ⟨z - 1, by omega⟩
      have b1 : ¬ nI nt ≤ nI k := nI_ge (by omega) (by omega)
      obtain ⟨k2, q1, q2, q3, q4, q5⟩ := split_in (F := F) h8 (c := wc g k) (at0 := k) (r4 := N_Mo_split_4 F z) hn hgm d k F (by omega) (by omega) (by omega) (fun i h1 h2 => by omega)
      have hstep : N_Mo_split_4 F (z + 1) m (nI (wc g k)) (nI k) = N_Mo_split_40 F (N_Mo_split_4 F z) m (nI (wc g k)) (nI k2) (nI k) := by
        rw [← q5]
        simp [N_Mo_split_4, BN_Mo_split_4, hn, b1]
      rw [hstep]
      -- the state behind the word, and what it says of the tape up to k2
      have mid : ∃ m1 c1, N_Mo_split_40 F (N_Mo_split_4 F z) m (nI (wc g k)) (nI k2) (nI k) = N_Mo_split_4 F z m1 (nI c1) (nI (k2 + 1)) ∧ FrP e m m1 ∧ c1 = wc g k2 ∧ Wrd m1 g e k2 (wc g k2) := by
        by_cases hkk : k2 = k
        · subst hkk
          have b2 : nI k2 ≤ nI k2 := Int32.le_refl _
          exact ⟨m, wc g k2, by simp [N_Mo_split_40, b2, N_Mo_split_105, nI_1], FrP.refl e m, rfl, hW⟩
        · obtain ⟨s0, s1, s2, s3, s4⟩ := w_stretch hi k2 (by omega) q3
          have hc := hwcle k2 (by omega)
          obtain ⟨c, hcd⟩ : ∃ c, c = wc g k := ⟨_, rfl⟩
          rw [← hcd] at s1 s2 s3 s4 hW ⊢
          have b2 : ¬ nI k2 ≤ nI k := nI_ge (by omega) (by omega)
          have c1 : nI (400 * e) + nI c = nI (400 * e + c) := nI_add _ _
          have c2 : ¬ (nI (400 * e + c) < 0 ∨ 2400 ≤ (nI (400 * e + c)).toNatClampNeg) := nI_in (by omega) (by decide)
          have c3 : (nI (400 * e + c)).toNatClampNeg = 400 * e + c := nI_clamp (by omega)
          have hsub : nI k2 - nI k = nI (k2 - k) := by
            have : nI k2 = nI (k2 - k) + nI k := by rw [nI_add]; congr 1; omega
            rw [this, Int32.add_sub_cancel]
          obtain ⟨m6, hm6⟩ : ∃ y, y = sStI (sStI m 6 (400 * e + c) (nI k)) 7 (400 * e + c) (nI (k2 - k)) := ⟨_, rfl⟩
          have g6 : m6.2.1 1 = g := by rw [hm6]; simp [sStI, hgm]
          have i6 : m6.1 22 = nI e := by rw [hm6]; exact h22
          have ew := wordOf_eq (F := F) (m := m6) (b := k) (n := k2 - k) (N := nt) (by omega) (by omega) h8 (by rw [g6]; exact hg) hF
          rw [g6, show k + (k2 - k) = k2 by omega] at ew
          refine ⟨sStI m6 8 (400 * e + c) (tk g k k2), c + 1, ?_, ⟨⟨fun _ _ => by rw [hm6]; rfl, fun j hj => ?_, fun _ _ => by rw [hm6]; rfl⟩, fun j hj => ?_, fun j hj => ?_⟩, s1.symm, ?_⟩
          · unfold N_Mo_split_40
            rw [if_neg b2, h22, nI_400, c1, if_neg c2, c3, Option.bind_some]
            have h22b : (sStI m 6 (400 * e + c) (nI k)).1 22 = nI e := h22
            rw [h22b, nI_400, c1, if_neg c2, c3, hsub, Option.bind_some, ← hm6, i6, nI_400, c1, ew, Option.bind_some, if_neg c2, c3, Option.bind_some]
            simp [N_Mo_split_105, nI_1]
          · simp at hj; rw [hm6]; simp [sStI, hj]
          · have : j ≠ 400 * e + c := by omega
            rw [hm6]; simp [sStI, upd, this]
          · rw [hm6]; simp [sStI]
          · intro i hi2
            rw [s1] at hi2
            by_cases ci : i = c
            · subst ci
              rw [s2, s3, hm6]
              simp [sStI, upd]
            · obtain ⟨t1, t2⟩ := s4 i (by omega)
              obtain ⟨u1, u2, u3⟩ := hW i (by omega)
              rw [t1, t2, hm6]
              simp [sStI, upd, ci, u1, u2, u3]
      obtain ⟨m1, c1, x1, x2, x3, x4⟩ := mid
      rw [x1, x3]
      have f22 : m1.1 22 = nI e := by rw [x2.1.1 22 (by simp)]; exact h22
      have f2 : m1.1 2 = nI nt := by rw [x2.1.1 2 (by simp)]; exact hn
      have f1 : m1.2.1 1 = g := by rw [x2.1.2.1 1 (by simp)]; exact hgm
      by_cases hend : k2 = nt
      · subst hend
        obtain ⟨m2, y1, y2, y3, y4, y5⟩ := fin z (k2 + 1) m1 (by omega) (by omega) (by omega) f22 f2 f1 x4
        exact ⟨m2, y1, x2.trans y2, y3, y4, y5⟩
      · obtain ⟨p1, p2, p3⟩ := w_blank (q4 (by omega))
        obtain ⟨m2, y1, y2, y3, y4, y5⟩ := ih (k2 + 1) (nt - (k2 + 1)) z m1 (by omega) (by omega) (by omega) f22 f2 f1 p1 (fun i hi2 => by
          rw [p2] at hi2
          obtain ⟨t1, t2⟩ := p3 i
          rw [t1, t2]
          exact x4 i hi2)
        rw [p2] at y1
        exact ⟨m2, y1, x2.trans y2, y3, y4, y5⟩
theorem split_eq {m : MS} (he : e < 6) (h8 : nt ≤ 800) (hg : nrm (m.2.1 1) nt) (hF : 900 < F) (h22 : m.1 22 = nI e) (h2 : m.1 2 = nI nt) : ∃ m2, N_Mo_split F m = some m2 ∧ FrP e m m2 ∧ m2.2.1 9 e = nI (wc (m.2.1 1) nt) ∧ Wrd m2 (m.2.1 1) e nt (wc (m.2.1 1) nt) ∧ ∀ i, i < nt → m2.2.1 5 (800 * e + i) = m.2.1 1 i := by
  have := split_out (F := F) he h8 hg hF nt 0 nt F m (by omega) (by omega) (by omega) h22 h2 rfl rfl (fun i hi => by simp [wc] at hi)
  simp only [wc, nIk0] at this
  exact this
end SPLIT
