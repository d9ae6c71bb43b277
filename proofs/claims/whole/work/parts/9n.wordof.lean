/-! a word's code, by the reference -/
section WORDOF
variable {F : Nat} {m : MS} {b n : Nat} {N : Nat}
theorem by8_no {x : Int32} (h : by8 x = x) (y : Int32) (hy : by8 y ≠ y) : ¬ x = y := fun q => hy (q ▸ h)
/-- the codes below 0 -/
theorem word88 (h1 : 1 ≤ n) (hb : b + n ≤ N) (hN : N ≤ 800) (hg : nrm (m.2.1 1) N) (hF : 900 < F) (hnn : isnum (m.2.1 1) b (b + n) = false) (v : Int32) : N_Mo_wordOf_88 F m (nI b) (nI n) 0 v = some (tk (m.2.1 1) b (b + n), m) := by
  obtain ⟨x, ex, x1, x2⟩ := nameOf_eq (F := F) hb hN hg hF
  obtain ⟨g, hgd⟩ : ∃ g, g = m.2.1 1 := ⟨_, rfl⟩
  rw [← hgd] at x1 x2 hg hnn ⊢
  have n0 : b + n - b = n := by omega
  have eN : ∀ s0 : Int32, s0 ≠ 37 → s0 ≠ 40 → s0 ≠ 41 → s0 ≠ 42 → s0 ≠ 43 → s0 ≠ 45 → s0 ≠ 47 → s0 ≠ 59 → s0 ≠ 60 → s0 ≠ 61 → s0 ≠ 303 → s0 ≠ 316 → N_Mo_wordOf_141 F m (nI b) (nI n) s0 = some (x, m) := by
    intro s0 h1 h2 h3 h4 h5 h6 h7 h8 h9 h10 h11 h12
    simp [N_Mo_wordOf_141, h1, h2, h3, h4, h5, h6, h7, h8, h9, h10, h11, h12, ex]
  have e0 : N_Mo_wordOf_140 F m (nI b) (nI n) = some (x, m) := eN 0 (by decide) (by decide) (by decide) (by decide) (by decide) (by decide) (by decide) (by decide) (by decide) (by decide) (by decide) (by decide)
  have nb : by8 (g b) = g b := hg b (by omega)
  have c1 : ¬ (nI b < 0 ∨ 800 ≤ (nI b).toNatClampNeg) := nI_in (by omega) (by decide)
  have c2 : (nI b).toNatClampNeg = b := nI_clamp (by omega)
  have q1 : (nI n = 1) ↔ n = 1 := nI_eq (b := 1) (by omega) (by decide)
  have q2 : (nI n = 2) ↔ n = 2 := nI_eq (b := 2) (by omega) (by decide)
  -- what the reference does, by the length
  have r1 : n = 1 → N_Mo_wordOf_88 F m (nI b) (nI n) 0 v = N_Mo_wordOf_141 F m (nI b) (nI n) (g b) := by
    intro h
    unfold N_Mo_wordOf_88
    rw [if_pos rfl, if_pos (q1.mpr h), if_neg c1, c2, hgd]
  have r2 : n = 2 → N_Mo_wordOf_88 F m (nI b) (nI n) 0 v = if g (b + 1) = 61 then N_Mo_wordOf_141 F m (nI b) (nI n) (256 + g b) else some (x, m) := by
    intro h
    have d1 : ¬ (nI (b + 1) < 0 ∨ 800 ≤ (nI (b + 1)).toNatClampNeg) := nI_in (by omega) (by decide)
    have d2 : (nI (b + 1)).toNatClampNeg = b + 1 := nI_clamp (by omega)
    unfold N_Mo_wordOf_88
    rw [if_pos rfl, if_neg (fun q => by rw [q1] at q; omega), if_pos (q2.mpr h), nI_1, if_neg d1, d2, ← hgd, if_neg c1, c2, e0]
  have r3 : n ≠ 1 → n ≠ 2 → N_Mo_wordOf_88 F m (nI b) (nI n) 0 v = some (x, m) := by
    intro h h'
    unfold N_Mo_wordOf_88
    rw [if_pos rfl, if_neg (fun q => h (q1.mp q)), if_neg (fun q => h' (q2.mp q)), e0]
  have w1 : ∀ c, n = 1 → (wis g b (b + n) [c] = true ↔ g b = nI c) := by
    intro c h
    unfold wis
    rw [n0]
    simp [h, wpre]
  have w2 : ∀ c d, n = 2 → (wis g b (b + n) [c, d] = true ↔ g b = nI c ∧ g (b + 1) = nI d) := by
    intro c d h
    unfold wis
    rw [n0]
    simp [h, wpre]
  rcases tk_cases g b (b + n) with ⟨h0, -⟩ | ⟨-, k, hk, ht, hw⟩ | ⟨-, ht, hw⟩
  · rw [h0] at hnn; cases hnn
  · rw [ht]
    have hwk : wis g b (b + n) (lit k) = true := by rw [hw k hk]; simp
    have hlen : n = (lit k).length := by
      unfold wis at hwk
      simp only [Bool.and_eq_true, decide_eq_true_eq] at hwk
      omega
    have nm : k = 0 ∨ k = 1 ∨ k = 2 ∨ k = 4 ∨ k = 5 ∨ k = 17 ∨ k = 18 → N_Mo_wordOf_88 F m (nI b) (nI n) 0 v = some (cd k, m) := by
      intro hkk
      have hx := x1 k hkk hwk
      rw [← hx]
      by_cases h2 : n = 2
      · have hk5 : k = 5 := by
          rcases hkk with h | h | h | h | h | h | h <;> subst h <;> first | rfl | (simp [lit] at hlen; omega)
        subst hk5
        have := ((w2 97 116 h2).mp hwk).2
        rw [r2 h2, if_neg (by rw [this]; decide)]
      · exact r3 (fun q => by rcases hkk with h | h | h | h | h | h | h <;> subst h <;> simp [lit] at hlen <;> omega) h2
    have hall : (k = 0 ∨ k = 1 ∨ k = 2 ∨ k = 4 ∨ k = 5 ∨ k = 17 ∨ k = 18) ∨ k = 3 ∨ k = 6 ∨ k = 7 ∨ k = 8 ∨ k = 9 ∨ k = 10 ∨ k = 11 ∨ k = 12 ∨ k = 13 ∨ k = 15 ∨ k = 14 ∨ k = 16 := by omega
    rcases hall with h | h | h | h | h | h | h | h | h | h | h | h | h
    · exact nm h
    · subst h; have e := (w1 59 hlen).mp hwk; rw [r1 hlen, e]; rfl
    · subst h; have e := (w1 40 hlen).mp hwk; rw [r1 hlen, e]; rfl
    · subst h; have e := (w1 43 hlen).mp hwk; rw [r1 hlen, e]; rfl
    · subst h; have e := (w1 45 hlen).mp hwk; rw [r1 hlen, e]; rfl
    · subst h; have e := (w1 42 hlen).mp hwk; rw [r1 hlen, e]; rfl
    · subst h; have e := (w1 47 hlen).mp hwk; rw [r1 hlen, e]; rfl
    · subst h; have e := (w1 37 hlen).mp hwk; rw [r1 hlen, e]; rfl
    · subst h; have e := (w1 41 hlen).mp hwk; rw [r1 hlen, e]; rfl
    · subst h; have e := (w1 60 hlen).mp hwk; rw [r1 hlen, e]; rfl
    · subst h; have e := (w1 61 hlen).mp hwk; rw [r1 hlen, e]; rfl
    · subst h; have e := (w2 60 61 hlen).mp hwk; rw [r2 hlen, e.1, e.2]; rfl
    · subst h; have e := (w2 47 61 hlen).mp hwk; rw [r2 hlen, e.1, e.2]; rfl
  · rw [ht]
    have hx : x = -20 := x2 (fun k hk => hw k (by omega))
    rw [hx] at eN r2 r3
    by_cases h1 : n = 1
    · have no : ∀ c k, k < 19 → lit k = [c] → g b ≠ nI c := by
        intro c k hk hl q
        have := (w1 c h1).mpr q
        rw [← hl, hw k hk] at this
        cases this
      rw [r1 h1]
      exact eN (g b) (no 37 11 (by decide) rfl) (no 40 6 (by decide) rfl) (no 41 12 (by decide) rfl) (no 42 9 (by decide) rfl) (no 43 7 (by decide) rfl) (no 45 8 (by decide) rfl) (no 47 10 (by decide) rfl) (no 59 3 (by decide) rfl) (no 60 13 (by decide) rfl) (no 61 15 (by decide) rfl) (by8_no nb 303 (by decide)) (by8_no nb 316 (by decide))
    · by_cases h2 : n = 2
      · rw [r2 h2]
        by_cases c : g (b + 1) = 61
        · rw [if_pos c]
          have no : ∀ c2 k, k < 19 → lit k = [c2, 61] → g b ≠ nI c2 := by
            intro c2 k hk hl q
            have := (w2 c2 61 h2).mpr ⟨q, c⟩
            rw [← hl, hw k hk] at this
            cases this
          have sub : ∀ y z : Int32, y = 256 + z → by8 z ≠ z → 256 + g b ≠ y := by
            intro y z hy hz q
            rw [hy] at q
            exact by8_no nb z hz ((Int32.add_right_inj 256).mp q)
          exact eN (256 + g b) (sub 37 (37 - 256) (by decide) (by decide)) (sub 40 (40 - 256) (by decide) (by decide)) (sub 41 (41 - 256) (by decide) (by decide)) (sub 42 (42 - 256) (by decide) (by decide)) (sub 43 (43 - 256) (by decide) (by decide)) (sub 45 (45 - 256) (by decide) (by decide)) (sub 47 (47 - 256) (by decide) (by decide)) (sub 59 (59 - 256) (by decide) (by decide)) (sub 60 (60 - 256) (by decide) (by decide)) (sub 61 (61 - 256) (by decide) (by decide)) (fun q => no 47 16 (by decide) rfl ((Int32.add_right_inj 256).mp (q.trans (show (303 : Int32) = 256 + nI 47 by decide)))) (fun q => no 60 14 (by decide) rfl ((Int32.add_right_inj 256).mp (q.trans (show (316 : Int32) = 256 + nI 60 by decide))))
        · rw [if_neg c]
      · exact r3 h1 h2
theorem word18 (h1 : 1 ≤ n) (hb : b + n ≤ N) (hN : N ≤ 800) (hg : nrm (m.2.1 1) N) (hF : 900 < F) (h10 : n < 10) : ∀ (d j z : Nat), j + d = n → d < z → digs (m.2.1 1) b j = true → N_Mo_wordOf_18 F z m (nI b) (nI n) 1 (nI (numv (m.2.1 1) b j)) (nI j) = some (tk (m.2.1 1) b (b + n), m) := by
  have n0 : b + n - b = n := by omega
  intro d
  induction d with
  | zero =>
    intro j z hj hz hd
    obtain ⟨z, rfl⟩ : ∃ y, z = y + 1 := ⟨z - 1, by omega⟩
    have ej : j = n := by omega
    subst ej
    have b1 : nI j ≤ nI j := Int32.le_refl _
    have hi : isnum (m.2.1 1) b (b + j) = true := by simp [isnum, h10, hd]
    have : tk (m.2.1 1) b (b + j) = nI (numv (m.2.1 1) b j) := by simp [tk, hi]
    simp [N_Mo_wordOf_18, BN_Mo_wordOf_18, b1, N_Mo_wordOf_88, this]
  | succ d ih =>
    intro j z hj hz hd
    obtain ⟨z, rfl⟩ : ∃ y, z = y + 1 := ⟨z - 1, by omega⟩
    have b1 : ¬ nI n ≤ nI j := nI_ge (by omega) (by omega)
    have b4 : nI b + nI j = nI (b + j) := nI_add _ _
    have b5 : ¬ (nI (b + j) < 0 ∨ 800 ≤ (nI (b + j)).toNatClampNeg) := nI_in (by omega) (by decide)
    have b6 : (nI (b + j)).toNatClampNeg = b + j := nI_clamp (by omega)
    have pre : N_Mo_wordOf_18 F (z + 1) m (nI b) (nI n) 1 (nI (numv (m.2.1 1) b j)) (nI j) = N_Mo_wordOf_18 F z m (nI b) (nI n) (if dig (m.2.1 1 (b + j)) then 1 else 0) (((10 * nI (numv (m.2.1 1) b j)) + m.2.1 1 (b + j)) - 48) (nI (j + 1)) := by
      show BN_Mo_wordOf_18 F (N_Mo_wordOf_18 F z) m (nI b) (nI n) 1 (nI (numv (m.2.1 1) b j)) (nI j) = _
      unfold BN_Mo_wordOf_18 N_Mo_wordOf_60 N_Mo_wordOf_61
      rw [if_neg b1, if_neg (by decide), b4, if_neg b5, if_neg b5, if_neg b5, if_neg b5, b6, nI_1]
      unfold dig
      by_cases c1 : m.2.1 1 (b + j) < 48
      · have : ¬ (48 : Int32) ≤ m.2.1 1 (b + j) := Int32.not_le.mpr c1
        simp [c1, this]
      · have h48 : (48 : Int32) ≤ m.2.1 1 (b + j) := Int32.not_lt.mp c1
        by_cases c2 : (57 : Int32) < m.2.1 1 (b + j)
        · have : ¬ m.2.1 1 (b + j) ≤ 57 := Int32.not_le.mpr c2
          simp [c1, c2, this]
        · have : m.2.1 1 (b + j) ≤ 57 := Int32.not_lt.mp c2
          simp [c1, c2, this, h48]
    rw [pre]
    cases hdg : dig (m.2.1 1 (b + j)) with
    | true =>
      obtain ⟨v, hv, e1⟩ := dig_of hdg
      have hd2 : digs (m.2.1 1) b (j + 1) = true := by simp [digs, hd, hdg]
      have c4 : ((10 * nI (numv (m.2.1 1) b j)) + m.2.1 1 (b + j)) - 48 = nI (numv (m.2.1 1) b (j + 1)) := by
        rw [nI_10', e1, nI_add]
        simp only [numv]
        rw [e1, nI_clamp (by omega)]
        have : nI (10 * numv (m.2.1 1) b j + (48 + v)) = nI (10 * numv (m.2.1 1) b j + (48 + v - 48)) + 48 := by
          have e48 : (48 : Int32) = nI 48 := rfl
          rw [e48, nI_add]
          congr 1
          omega
        rw [this, Int32.add_sub_cancel]
      rw [c4]
      exact ih (j + 1) z (by omega) (by omega) hd2
    | false =>
      have hnn : isnum (m.2.1 1) b (b + n) = false := by
        cases q : isnum (m.2.1 1) b (b + n) with
        | false => rfl
        | true =>
          unfold isnum at q
          rw [n0] at q
          simp only [Bool.and_eq_true, decide_eq_true_eq] at q
          rw [digs_pre (k := j) (by omega) q.2] at hdg
          cases hdg
      obtain ⟨z, rfl⟩ : ∃ y, z = y + 1 := ⟨z - 1, by omega⟩
      show BN_Mo_wordOf_18 F (N_Mo_wordOf_18 F z) m (nI b) (nI n) 0 _ (nI (j + 1)) = _
      unfold BN_Mo_wordOf_18
      rw [if_pos rfl, word88 h1 hb hN hg hF hnn]
      simp
theorem wordOf_eq (h1 : 1 ≤ n) (hb : b + n ≤ N) (hN : N ≤ 800) (hg : nrm (m.2.1 1) N) (hF : 900 < F) : N_Mo_wordOf F m (nI b) (nI n) = some (tk (m.2.1 1) b (b + n), m) := by
  by_cases h10 : n < 10
  · have b1 : ¬ (10 : Int32) ≤ nI n := nI_ge (b := 10) h10 (by decide)
    have := word18 (F := F) h1 hb hN hg hF h10 n 0 F (by omega) (by omega) rfl
    unfold N_Mo_wordOf N_Mo_wordOf_11
    rw [if_neg b1]
    simp only [numv, nIk0] at this
    exact this
  · have b1 : (10 : Int32) ≤ nI n := nI_le (a := 10) (by omega) (by omega)
    have hnn : isnum (m.2.1 1) b (b + n) = false := by
      simp [isnum, h10]
    unfold N_Mo_wordOf N_Mo_wordOf_11
    rw [if_pos b1]
    obtain ⟨z, rfl⟩ : ∃ y, F = y + 1 := ⟨F - 1, by omega⟩
    show BN_Mo_wordOf_18 (z + 1) _ m (nI b) (nI n) 0 0 0 = _
    unfold BN_Mo_wordOf_18
    rw [if_pos rfl, word88 h1 hb hN hg hF hnn]
    simp
end WORDOF
