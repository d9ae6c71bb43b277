/-! A RULE, BY THE REFERENCE -/
theorem nI_m1 (k : Nat) : nI (k + 1) + (-1) = nI k := by rw [← nI_pred k, Int32.sub_eq_add_neg]
theorem nI_m2 (k : Nat) : nI (k + 2) + (-2) = nI k := by
  have : (-2 : Int32) = -1 + -1 := rfl
  rw [this, ← Int32.add_assoc, nI_m1, nI_m1]
theorem nI_400 (e : Nat) : (400 : Int32) * nI e = nI (400 * e) := (Int32.ofNat_mul 400 e).symm
theorem nI_12 (e : Nat) : (12 : Int32) * nI e = nI (12 * e) := (Int32.ofNat_mul 12 e).symm
theorem nI_8 (e : Nat) : (8 : Int32) * nI e = nI (8 * e) := (Int32.ofNat_mul 8 e).symm
theorem nI_80 (e : Nat) : (80 : Int32) * nI e = nI (80 * e) := (Int32.ofNat_mul 80 e).symm
theorem nI_10' (e : Nat) : (10 : Int32) * nI e = nI (10 * e) := (Int32.ofNat_mul 10 e).symm
theorem nI_800 (e : Nat) : (800 : Int32) * nI e = nI (800 * e) := (Int32.ofNat_mul 800 e).symm
/-- what a look leaves of the reference -/
def FrN (m m2 : MS) : Prop := (∀ k, k ≠ 33 → k ≠ 34 → m2.1 k = m.1 k) ∧ m2.2.1 = m.2.1 ∧ ∀ k, k ≠ 35 → m2.2.2 k = m.2.2 k
theorem FrN.refl (m : MS) : FrN m m := ⟨fun _ _ _ => rfl, rfl, fun _ _ => rfl⟩
theorem FrN.trans {m m2 m3 : MS} (h : FrN m m2) (g : FrN m2 m3) : FrN m m3 := ⟨fun k a b => (g.1 k a b).trans (h.1 k a b), g.2.1.trans h.2.1, fun k a => (g.2.2 k a).trans (h.2.2 k a)⟩
theorem NE.frN {m m2 : MS} {e : Nat} {E : Ed} (h : NE m e E) (g : FrN m m2) : NE m2 e E := by
  unfold NE
  rw [g.2.1]
  exact h
theorem FrN.p34 (m : MS) (v : Int32) : FrN m (sPut m 34 v) := ⟨fun k h1 h2 => by simp [sPut, upd, h2], rfl, fun _ _ => rfl⟩
theorem FrN.p33 (m : MS) (v : Int32) : FrN m (sPut m 33 v) := ⟨fun k h1 h2 => by simp [sPut, upd, h1], rfl, fun _ _ => rfl⟩
theorem FrN.pile (m : MS) (i : Nat) (v : Int64) : FrN m (sStL m 35 i v) := ⟨fun k h1 h2 => rfl, rfl, fun k h => by simp [sStL, h]⟩
theorem pile_at (m : MS) (i : Nat) (v : Int64) : (sStL m 35 i v).2.2 35 = vp_updL (m.2.2 35) i v := by simp [sStL]
theorem pile_ok {m : MS} {p : Nat → Int64} {T : Nat} (R : ∀ j, j < T → m.2.2 35 j = p j) (v : Int32) (i : Nat) (x : Int64) (j : Nat) (h : j ≠ i → j < T) : (sStL (sPut m 34 v) 35 i x).2.2 35 j = vp_updL p i x j := by
  rw [pile_at, upl_at, upl_at]
  by_cases e : j = i
  · rw [if_pos e, if_pos e]
  · rw [if_neg e, if_neg e]; exact R j (h e)
theorem isOp_eq {F : Nat} {m : MS} {k : Nat} (h : k ≤ 12) : N_Mo_isOperator F m (rk k) = some (if 4 ≤ k ∧ k < 9 then 1 else 0, m) := by
  have : k = 0 ∨ k = 1 ∨ k = 2 ∨ k = 3 ∨ k = 4 ∨ k = 5 ∨ k = 6 ∨ k = 7 ∨ k = 8 ∨ k = 9 ∨ k = 10 ∨ k = 11 ∨ k = 12 := by omega
  rcases this with h | h | h | h | h | h | h | h | h | h | h | h | h <;> subst h <;> simp [N_Mo_isOperator, rk]
theorem look_step {F : Nat} {m m0 : MS} {e : Nat} {E : Ed} {p : Nat → Int64} {i k : Nat} {rr : MS → Int32 → Int32 → Int32 → Int32 → Option (Int32 × MS)} (he : e < 6) (hN : NE m e E) (hw : WE E) (hk : k < E.1 4) (h0 : E.2 6 k ≤ i) (hi : i < E.2 9 k) (R : ∀ j, j < E.2 2 i → m.2.2 35 j = p j) (h64 : E.2 2 i ≤ 64) (hv : m.2.2 27 = m0.2.2 27) (hvt : m.2.1 28 = m0.2.1 28) :
    ∃ m2, BN_Mo_look_18 F rr m (nI e) (nI (12 * e + k)) (nI (E.2 2 i)) (nI i) = (if (s1 E (m0.2.2 27) (m0.2.1 28) i (E.2 2 i) p).1 = 0 then rr m2 (nI e) (nI (12 * e + k)) (nI (s1 E (m0.2.2 27) (m0.2.1 28) i (E.2 2 i) p).2.2.2.1) (nI (i + 1)) else some (if (s1 E (m0.2.2 27) (m0.2.1 28) i (E.2 2 i) p).1 = 1 ∧ i < E.2 8 k then 3 else (s1 E (m0.2.2 27) (m0.2.1 28) i (E.2 2 i) p).1, m2)) ∧ FrN m m2 ∧ ((s1 E (m0.2.2 27) (m0.2.1 28) i (E.2 2 i) p).1 = 2 → m2.1 33 = (s1 E (m0.2.2 27) (m0.2.1 28) i (E.2 2 i) p).2.1 ∧ m2.1 34 = (s1 E (m0.2.2 27) (m0.2.1 28) i (E.2 2 i) p).2.2.1) ∧ ((s1 E (m0.2.2 27) (m0.2.1 28) i (E.2 2 i) p).1 = 0 → ∀ j, j < (s1 E (m0.2.2 27) (m0.2.1 28) i (E.2 2 i) p).2.2.2.1 → m2.2.2 35 j = (s1 E (m0.2.2 27) (m0.2.1 28) i (E.2 2 i) p).2.2.2.2 j) := by
  have hw0 := hw
  obtain ⟨w1, w2, w3, w4, w5, w6, w7⟩ := hw
  obtain ⟨v1', v2', v3', v4', v5', v6'⟩ := w7 k hk
  have w := w5 i (by omega)
  obtain ⟨-, nK, nT, nR⟩ := hN
  obtain ⟨nR1, nR2, nR3, nR4, nR5⟩ := nR k hk
  obtain ⟨k1, k2⟩ := nK i (by omega)
  have b1 : ¬ (nI (12 * e + k) < 0 ∨ 72 ≤ (nI (12 * e + k)).toNatClampNeg) := nI_in (by omega) (by decide)
  have b2 : (nI (12 * e + k)).toNatClampNeg = 12 * e + k := nI_clamp (by omega)
  have b3 : ¬ nI (E.2 9 k) ≤ nI i := nI_ge hi (by omega)
  have b4 : nI (400 * e) + nI i = nI (400 * e + i) := nI_add _ _
  have b5 : ¬ (nI (400 * e + i) < 0 ∨ 2400 ≤ (nI (400 * e + i)).toNatClampNeg) := nI_in (by omega) (by decide)
  have b6 : (nI (400 * e + i)).toNatClampNeg = 400 * e + i := nI_clamp (by omega)
  rw [← hv, ← hvt]
  obtain ⟨w, h65⟩ := w
  have y34 : ∀ q, (sPut m 34 (-1)).2.1 q = m.2.1 q := fun q => rfl
  have y35 : ∀ q, (sPut m 34 (-1)).2.2 q = m.2.2 q := fun q => rfl
  unfold BN_Mo_look_18
  rw [if_neg b1, b2, nR5, if_neg b3, nI_400, b4, if_neg b5, if_neg b5, b6, k1, Option.bind_some]
  have neg : ∀ x y : Int32, x ≠ y → ¬ x = y := fun _ _ h => h
  rcases w with ⟨v1, v2, v3⟩ | ⟨v1, v2, v3⟩ | ⟨v1, v2, v3, v4⟩ | ⟨v1, v2, v3, v4⟩ | ⟨v1, v2, v3, v4⟩
  · -- a number
    have es : s1 E (m.2.2 27) (m.2.1 28) i (E.2 2 i) p = (0, -1, -1, E.2 2 i + 1, vp_updL p (E.2 2 i) (nI (E.2 1 i)).toInt64) := by simp [s1, v1]
    have c1 : ¬ (nI (E.2 2 i) < 0 ∨ 500 ≤ (nI (E.2 2 i)).toNatClampNeg) := nI_in (by omega) (by decide)
    have c2 : (nI (E.2 2 i)).toNatClampNeg = E.2 2 i := nI_clamp (by omega)
    rw [es, v1, k2 (by omega), if_pos (show rk 0 = -21 from rfl), if_neg c1, c2, Option.bind_some]
    refine ⟨sStL (sPut m 34 (-1)) 35 (E.2 2 i) (nI (E.2 1 i)).toInt64, ?_, (FrN.p34 m (-1)).trans (FrN.pile _ _ _), fun h => by simp at h, fun _ j hj => ?_⟩
    · simp [N_Mo_look_336, nI_1]
    · exact pile_ok R _ _ _ _ (fun h => by simp only at hj; omega)
  · -- a fact
    have es : s1 E (m.2.2 27) (m.2.1 28) i (E.2 2 i) p = if m.2.1 28 (E.2 1 i) = 0 then (2, 3, nI (E.2 1 i), E.2 2 i, p) else (0, -1, -1, E.2 2 i + 1, vp_updL p (E.2 2 i) (m.2.2 27 (E.2 1 i))) := by simp [s1, v1]
    have c1 : ¬ (nI (E.2 2 i) < 0 ∨ 500 ≤ (nI (E.2 2 i)).toNatClampNeg) := nI_in (by omega) (by decide)
    have c2 : (nI (E.2 2 i)).toNatClampNeg = E.2 2 i := nI_clamp (by omega)
    have c3 : ¬ (nI (E.2 1 i) < 0 ∨ 20 ≤ (nI (E.2 1 i)).toNatClampNeg) := nI_in (by omega) (by decide)
    have c4 : (nI (E.2 1 i)).toNatClampNeg = E.2 1 i := nI_clamp (by omega)
    rw [es, v1, k2 (by omega), if_neg (show ¬ rk 1 = -21 by decide), if_pos (show rk 1 = -6 from rfl), if_neg c3, c4, y34, y35]
    by_cases h : m.2.1 28 (E.2 1 i) = 0
    · rw [if_pos h, if_pos h, Option.bind_some, Option.bind_some]
      refine ⟨sPut (sPut (sPut m 34 (-1)) 33 3) 34 (nI (E.2 1 i)), ?_, ((FrN.p34 m (-1)).trans (FrN.p33 _ 3)).trans (FrN.p34 _ (nI (E.2 1 i))), fun _ => ⟨?_, ?_⟩, fun h => by simp at h⟩
      · simp
      · simp [sPut, upd]
      · simp [sPut, upd]
    · rw [c4] at c3
      rw [if_neg h, if_neg h, if_neg c3, if_neg c1, c2, Option.bind_some]
      refine ⟨sStL (sPut m 34 (-1)) 35 (E.2 2 i) (m.2.2 27 (E.2 1 i)), ?_, (FrN.p34 m (-1)).trans (FrN.pile _ _ _), fun h => by simp at h, fun _ j hj => ?_⟩
      · simp [N_Mo_look_336, nI_1]
      · exact pile_ok R _ _ _ _ (fun h => by simp only at hj; omega)
  · -- a place
    obtain ⟨t, ht⟩ : ∃ t, E.2 2 i = t + 1 := ⟨E.2 2 i - 1, by omega⟩
    have es : s1 E (m.2.2 27) (m.2.1 28) i (E.2 2 i) p = if p t < 0 ∨ (nI (E.2 3 (E.2 1 i))).toInt64 ≤ p t then (2, 2, -1, t + 1, p) else (0, -1, -1, t + 1, vp_updL p t (nI (E.2 4 (10 * E.2 1 i + (p t).toNatClampNeg))).toInt64) := by simp [s1, v1, ht]
    obtain ⟨z1, z2⟩ := w6 _ v2
    obtain ⟨y1, y2⟩ := nT _ v2
    have pt : m.2.2 35 t = p t := R t (by omega)
    have c1 : ¬ (nI t < 0 ∨ 500 ≤ (nI t).toNatClampNeg) := nI_in (by omega) (by decide)
    have c2 : (nI t).toNatClampNeg = t := nI_clamp (by omega)
    have d1 : nI (8 * e) + nI (E.2 1 i) = nI (8 * e + E.2 1 i) := nI_add _ _
    have d2 : ¬ (nI (8 * e + E.2 1 i) < 0 ∨ 48 ≤ (nI (8 * e + E.2 1 i)).toNatClampNeg) := nI_in (by omega) (by decide)
    have d3 : (nI (8 * e + E.2 1 i)).toNatClampNeg = 8 * e + E.2 1 i := nI_clamp (by omega)
    rw [es, v1, k2 (by omega), if_neg (show ¬ rk 2 = -21 by decide), if_neg (show ¬ rk 2 = -6 by decide), if_pos (show rk 2 = -7 from rfl), ht, nI_pred, if_neg c1, c2, y35, pt, nI_8, d1, d3, y34, y1]
    have no : p t < 0 ∨ (nI (E.2 3 (E.2 1 i))).toInt64 ≤ p t → ∀ X : Option (Int32 × MS), (if lg_cmp (p t) 0 < 0 then (some (sPut (sPut m 34 (-1)) 33 2)).bind fun y27 => some ((2 : Int32), y27) else if nI (8 * e + E.2 1 i) < 0 ∨ 48 ≤ 8 * e + E.2 1 i then none else if lg_cmp (p t) (nI (E.2 3 (E.2 1 i))).toInt64 < 0 then X else (some (sPut (sPut m 34 (-1)) 33 2)).bind fun y35 => some (2, y35)) = some (2, sPut (sPut m 34 (-1)) 33 2) := by
      intro h X
      rw [d3] at d2
      by_cases g : lg_cmp (p t) 0 < 0
      · rw [if_pos g]; rfl
      · have g2 : ¬ lg_cmp (p t) (nI (E.2 3 (E.2 1 i))).toInt64 < 0 := by
          rw [cmpL_lt] at g ⊢
          rcases h with h | h
          · exact absurd h g
          · exact Int64.not_lt.mpr h
        rw [if_neg g, if_neg d2, if_neg g2]; rfl
    by_cases h : p t < 0 ∨ (nI (E.2 3 (E.2 1 i))).toInt64 ≤ p t
    · rw [no h, if_pos h]
      refine ⟨sPut (sPut m 34 (-1)) 33 2, ?_, (FrN.p34 m (-1)).trans (FrN.p33 _ 2), fun _ => ⟨?_, ?_⟩, fun h => by simp at h⟩
      · simp
      · simp [sPut, upd]
      · simp [sPut, upd]
    · rw [if_neg h]
      rcases lN_cases (p t) z1 with h2 | h2 | ⟨j, hj, ej⟩
      · exact absurd (Or.inl h2) h
      · exact absurd (Or.inr h2) h
      · have ecl : (p t).toNatClampNeg = j := by rw [ej]; exact lN_cl j (by omega)
        rw [ecl]
        have g1 : ¬ lg_cmp (p t) 0 < 0 := fun g => h (Or.inl (cmpL_lt.mp g))
        have g2 : lg_cmp (p t) (nI (E.2 3 (E.2 1 i))).toInt64 < 0 := cmpL_lt.mpr (Int64.not_le.mp (fun q => h (Or.inr q)))
        rw [d3] at d2
        have d4 : nI (80 * e) + nI (10 * E.2 1 i) + nI j = nI (80 * e + 10 * E.2 1 i + j) := by rw [nI_add, nI_add]
        have d5 : ¬ (nI (80 * e + 10 * E.2 1 i + j) < 0 ∨ 480 ≤ (nI (80 * e + 10 * E.2 1 i + j)).toNatClampNeg) := nI_in (by omega) (by decide)
        have d6 : (nI (80 * e + 10 * E.2 1 i + j)).toNatClampNeg = 80 * e + 10 * E.2 1 i + j := nI_clamp (by omega)
        have d7 : (p t).toInt32 = nI j := by rw [ej]; exact lN_i j
        rw [if_neg g1, if_neg d2, if_pos g2, nI_80, nI_10', d7, d4, if_neg d5, d6, y34, y2 j hj, Option.bind_some]
        rw [c2] at c1
        rw [if_neg c1]
        refine ⟨sStL (sPut m 34 (-1)) 35 t (nI (E.2 4 (10 * E.2 1 i + j))).toInt64, ?_, (FrN.p34 m (-1)).trans (FrN.pile _ _ _), fun h => by simp at h, fun _ j2 hj2 => ?_⟩
        · simp [N_Mo_look_336, nI_1]
        · exact pile_ok R _ _ _ _ (fun h => by simp only at hj2; omega)
  · -- an operator
    obtain ⟨t, ht⟩ : ∃ t, E.2 2 i = t + 2 := ⟨E.2 2 i - 2, by omega⟩
    have n0 : ¬ E.2 0 i = 0 := by omega
    have n1 : ¬ E.2 0 i = 1 := by omega
    have n2 : ¬ E.2 0 i = 2 := by omega
    have es : s1 E (m.2.2 27) (m.2.1 28) i (E.2 2 i) p = if 7 ≤ E.2 0 i ∧ p (t + 1) = 0 then (2, 1, -1, t + 2, p) else (0, -1, -1, t + 1, vp_updL p t (cb (E.2 0 i) (p t) (p (t + 1)))) := by simp [s1, n0, n1, n2, v2, ht]
    obtain ⟨K, hK⟩ : ∃ K, K = E.2 0 i := ⟨_, rfl⟩
    rw [← hK] at es v1 v2 ⊢
    have r1 : ¬ rk K = -21 ∧ ¬ rk K = -6 ∧ ¬ rk K = -7 ∧ ((-12 ≤ rk K) ↔ K < 7) := by
      have : K = 4 ∨ K = 5 ∨ K = 6 ∨ K = 7 ∨ K = 8 := by omega
      rcases this with h | h | h | h | h <;> subst h <;> decide
    have p1 : m.2.2 35 (t + 1) = p (t + 1) := R _ (by omega)
    have p0 : m.2.2 35 t = p t := R _ (by omega)
    have c1 : ¬ (nI (t + 1) < 0 ∨ 500 ≤ (nI (t + 1)).toNatClampNeg) := nI_in (by omega) (by decide)
    have c2 : (nI (t + 1)).toNatClampNeg = t + 1 := nI_clamp (by omega)
    have c3 : ¬ (nI t < 0 ∨ 500 ≤ (nI t).toNatClampNeg) := nI_in (by omega) (by decide)
    have c4 : (nI t).toNatClampNeg = t := nI_clamp (by omega)
    rw [es, if_neg r1.1, if_neg r1.2.1, if_neg r1.2.2.1, isOp_eq (by omega), if_pos ⟨v1, v2⟩, Option.bind_some, if_neg (show ¬ (1 : Int32) = 0 by decide), ht, nI_pred, if_neg c1, c2, y35, p1]
    have go : ¬ (7 ≤ K ∧ p (t + 1) = 0) → N_Mo_look_256 F rr (sPut m 34 (-1)) (nI e) (nI (12 * e + k)) (nI (t + 2)) (nI i) (rk K) = rr (sStL (sPut m 34 (-1)) 35 t (cb K (p t) (p (t + 1)))) (nI e) (nI (12 * e + k)) (nI (t + 1)) (nI (i + 1)) := by
      intro hn
      have er : N_Mo_reckon F (sPut m 34 (-1)) (rk K) (p t) (p (t + 1)) = some (cb K (p t) (p (t + 1)), sPut m 34 (-1)) := by
        have hK5 : K = 4 ∨ K = 5 ∨ K = 6 ∨ K = 7 ∨ K = 8 := by omega
        rcases hK5 with h | h | h | h | h
        · subst h; simp [N_Mo_reckon, rk, cb]
        · subst h; simp [N_Mo_reckon, rk, cb]
        · subst h; simp [N_Mo_reckon, rk, cb]
        · subst h
          have : ¬ p (t + 1) = 0 := fun q => hn ⟨by decide, q⟩
          simp [N_Mo_reckon, rk, cb, this]
        · subst h
          have : ¬ p (t + 1) = 0 := fun q => hn ⟨by decide, q⟩
          simp [N_Mo_reckon, rk, cb, this]
      have m1 : nI (t + 2) + (-1) = nI (t + 1) := nI_m1 (t + 1)
      unfold N_Mo_look_256
      rw [m1, nI_pred, if_neg c3, if_neg c1, c2, c4, y35, p0, p1, er, Option.bind_some]
      rw [c4] at c3
      rw [if_neg c3, Option.bind_some]
      simp [N_Mo_look_336, nI_1]
    have cz : (lg_cmp (p (t + 1)) 0 = 0) ↔ p (t + 1) = 0 := cmpL_eq
    by_cases h : 7 ≤ K ∧ p (t + 1) = 0
    · rw [if_pos h, if_neg (fun q => absurd (r1.2.2.2.mp q) (by omega)), if_pos (cz.mpr h.2), Option.bind_some]
      refine ⟨sPut (sPut m 34 (-1)) 33 1, ?_, (FrN.p34 m (-1)).trans (FrN.p33 _ 1), fun _ => ⟨?_, ?_⟩, fun h => by simp at h⟩
      · simp
      · simp [sPut, upd]
      · simp [sPut, upd]
    · rw [if_neg h, go h]
      refine ⟨sStL (sPut m 34 (-1)) 35 t (cb K (p t) (p (t + 1))), ?_, (FrN.p34 m (-1)).trans (FrN.pile _ _ _), fun h => by simp at h, fun _ j hj => ?_⟩
      · by_cases g : K < 7
        · rw [if_pos (r1.2.2.2.mpr g)]; simp
        · have : ¬ p (t + 1) = 0 := fun q => h ⟨by omega, q⟩
          rw [if_neg (fun q => g (r1.2.2.2.mp q)), if_neg (fun q => this (cz.mp q))]; simp
      · exact pile_ok R _ _ _ _ (fun h => by simp only at hj; omega)
  · -- a relation
    have n0 : ¬ E.2 0 i = 0 := by omega
    have n1 : ¬ E.2 0 i = 1 := by omega
    have n2 : ¬ E.2 0 i = 2 := by omega
    have n3 : ¬ E.2 0 i < 9 := by omega
    have es : s1 E (m.2.2 27) (m.2.1 28) i (E.2 2 i) p = if rl (E.2 0 i) (p 0) (p 1) then (0, -1, -1, 0, p) else (1, -1, -1, 2, p) := by simp [s1, n0, n1, n2, n3, v3]
    obtain ⟨K, hK⟩ : ∃ K, K = E.2 0 i := ⟨_, rfl⟩
    rw [← hK] at es v1 v2 ⊢
    have r1 : ¬ rk K = -21 ∧ ¬ rk K = -6 ∧ ¬ rk K = -7 := by
      have : K = 9 ∨ K = 10 ∨ K = 11 ∨ K = 12 := by omega
      rcases this with h | h | h | h <;> subst h <;> decide
    have p1 : m.2.2 35 1 = p 1 := R _ (by omega)
    have p0 : m.2.2 35 0 = p 0 := R _ (by omega)
    have m2 : nI 2 + (-2) = nI 0 := nI_m2 0
    have m3 : nI 0 + 1 = nI 1 := nI_1 0
    have c1 : ¬ (nI 1 < 0 ∨ 500 ≤ (nI 1).toNatClampNeg) := nI_in (by omega) (by decide)
    have c2 : (nI 1).toNatClampNeg = 1 := nI_clamp (by omega)
    have c3 : ¬ (nI 0 < 0 ∨ 500 ≤ (nI 0).toNatClampNeg) := nI_in (by omega) (by decide)
    have c4 : (nI 0).toNatClampNeg = 0 := nI_clamp (by omega)
    have hno : ¬ (4 ≤ K ∧ K < 9) := by omega
    rw [es, if_neg r1.1, if_neg r1.2.1, if_neg r1.2.2, isOp_eq (by omega), if_neg hno, Option.bind_some, if_pos rfl, v3, m2, m3, if_neg c3, if_neg c1, c2, c4, y35, p0, p1]
    have eh : N_Mo_holds F (sPut m 34 (-1)) (rk K) (p 0) (p 1) = some (if rl K (p 0) (p 1) then 1 else 0, sPut m 34 (-1)) := by
      have hlt : (0 ≤ lg_cmp (p 0) (p 1)) ↔ ¬ p 0 < p 1 := by
        rw [← cmpL_lt]; exact Int32.not_lt.symm
      have hle : (0 < lg_cmp (p 0) (p 1)) ↔ ¬ p 0 ≤ p 1 := by
        rw [← cmpL_le]; exact Int32.not_le.symm
      have : K = 9 ∨ K = 10 ∨ K = 11 ∨ K = 12 := by omega
      rcases this with h | h | h | h <;> subst h
      · by_cases c : p 0 < p 1 <;> simp [N_Mo_holds, rk, rl, hlt, c]
      · by_cases c : p 0 ≤ p 1 <;> simp [N_Mo_holds, rk, rl, hle, c]
      · by_cases c : p 0 = p 1 <;> simp [N_Mo_holds, rk, rl, cmpL_eq, c]
      · by_cases c : p 0 = p 1 <;> simp [N_Mo_holds, rk, rl, cmpL_eq, c]
    rw [eh, Option.bind_some]
    by_cases h : rl K (p 0) (p 1) = true
    · rw [if_pos h, if_pos h, if_neg (show ¬ (1 : Int32) = 0 by decide)]
      refine ⟨sPut m 34 (-1), ?_, FrN.p34 m (-1), fun h => by simp at h, fun _ j hj => by simp at hj⟩
      simp [N_Mo_look_336, nI_1, nIk0]
    · rw [if_neg h, if_neg h, if_pos rfl]
      refine ⟨sPut m 34 (-1), ?_, FrN.p34 m (-1), fun h => by simp at h, fun h => by simp at h⟩
      rw [b2] at b1
      rw [if_neg b1]
      have e15 : (sPut m 34 (-1)).2.1 15 (12 * e + k) = if E.2 10 k = 0 then -1 else nI (E.2 8 k) := nR4
      simp only [e15]
      by_cases hwh : E.2 10 k = 0
      · have hnd := v6' hwh
        have g1 : ¬ i < E.2 8 k := by omega
        have g2 : (-1 : Int32) ≤ nI i := by
          rw [Int32.le_iff_toInt_le, nI_toInt (by omega)]
          have : (-1 : Int32).toInt = -1 := by decide
          omega
        simp [hwh, g1, g2]
      · by_cases g1 : i < E.2 8 k
        · have g2 : ¬ nI (E.2 8 k) ≤ nI i := nI_ge g1 (by omega)
          simp [hwh, g1, g2]
        · have g2 : nI (E.2 8 k) ≤ nI i := nI_le (by omega) (by omega)
          simp [hwh, g1, g2]
theorem look_loop {F : Nat} {m0 : MS} {e : Nat} {E : Ed} {k : Nat} (he : e < 6) (hw : WE E) (hk : k < E.1 4) : ∀ (c i z : Nat) (m : MS) (p : Nat → Int64), i + c = E.2 9 k → c < z → E.2 6 k ≤ i → NE m e E → (∀ j, j < E.2 2 i → m.2.2 35 j = p j) → E.2 2 i ≤ 64 → m.2.2 27 = m0.2.2 27 → m.2.1 28 = m0.2.1 28 →
    ∃ m2, N_Mo_look_18 F z m (nI e) (nI (12 * e + k)) (nI (E.2 2 i)) (nI i) = some (if (sL E (m0.2.2 27) (m0.2.1 28) c i (E.2 2 i) p).1 = 1 ∧ (sL E (m0.2.2 27) (m0.2.1 28) c i (E.2 2 i) p).2.2.2.1 < E.2 8 k then 3 else (sL E (m0.2.2 27) (m0.2.1 28) c i (E.2 2 i) p).1, m2) ∧ FrN m m2 ∧ ((sL E (m0.2.2 27) (m0.2.1 28) c i (E.2 2 i) p).1 = 2 → m2.1 33 = (sL E (m0.2.2 27) (m0.2.1 28) c i (E.2 2 i) p).2.1 ∧ m2.1 34 = (sL E (m0.2.2 27) (m0.2.1 28) c i (E.2 2 i) p).2.2.1) := by
  intro c
  induction c with
  | zero =>
    intro i z m p hi hz h0 hN R h64 hv hvt
    obtain ⟨z, rfl⟩ : ∃ y, z = y + 1 := ⟨z - 1, by omega⟩
    obtain ⟨w1, w2, w3, w4, w5, w6, w7⟩ := hw
    obtain ⟨v1, v2, v3, v4, v5, v6⟩ := w7 k hk
    obtain ⟨nR1, nR2, nR3, nR4, nR5⟩ := hN.2.2.2 k hk
    have b1 : ¬ (nI (12 * e + k) < 0 ∨ 72 ≤ (nI (12 * e + k)).toNatClampNeg) := nI_in (by omega) (by decide)
    have b2 : (nI (12 * e + k)).toNatClampNeg = 12 * e + k := nI_clamp (by omega)
    have ei : i = E.2 9 k := by omega
    have b3 : nI (E.2 9 k) ≤ nI i := nI_le (by omega) (by omega)
    refine ⟨m, ?_, FrN.refl m, fun h => by simp [sL] at h⟩
    show BN_Mo_look_18 F (N_Mo_look_18 F z) m (nI e) (nI (12 * e + k)) (nI (E.2 2 i)) (nI i) = _
    unfold BN_Mo_look_18
    rw [if_neg b1, b2, nR5, if_pos b3]
    simp [sL]
  | succ c ih =>
    intro i z m p hi hz h0 hN R h64 hv hvt
    obtain ⟨z, rfl⟩ : ∃ y, z = y + 1 := ⟨z - 1, by omega⟩
    obtain ⟨m2, e1, g1, g2, g3⟩ := look_step (F := F) (m0 := m0) (rr := N_Mo_look_18 F z) he hN hw hk h0 (i := i) (by omega) R h64 hv hvt
    have w := hw.2.2.2.2.1 i (by have := (hw.2.2.2.2.2.2 k hk).2.2.1; omega)
    show ∃ m3, BN_Mo_look_18 F (N_Mo_look_18 F z) m (nI e) (nI (12 * e + k)) (nI (E.2 2 i)) (nI i) = _ ∧ _
    rw [e1]
    by_cases h : (s1 E (m0.2.2 27) (m0.2.1 28) i (E.2 2 i) p).1 = 0
    · have et := s1_top w h
      have R2 := g3 h
      rw [et] at R2
      have es : sL E (m0.2.2 27) (m0.2.1 28) (c + 1) i (E.2 2 i) p = sL E (m0.2.2 27) (m0.2.1 28) c (i + 1) (E.2 2 (i + 1)) (s1 E (m0.2.2 27) (m0.2.1 28) i (E.2 2 i) p).2.2.2.2 := by
        simp only [sL]
        rw [if_pos h, et]
      rw [es, if_pos h, et]
      obtain ⟨m3, e3, q1, q2⟩ := ih (i + 1) z m2 (s1 E (m0.2.2 27) (m0.2.1 28) i (E.2 2 i) p).2.2.2.2 (by omega) (by omega) (by omega) (hN.frN g1) R2 w.2 ((g1.2.2 27 (by decide)).trans hv) ((congrFun g1.2.1 28).trans hvt)
      exact ⟨m3, e3, g1.trans q1, q2⟩
    · have es : sL E (m0.2.2 27) (m0.2.1 28) (c + 1) i (E.2 2 i) p = ((s1 E (m0.2.2 27) (m0.2.1 28) i (E.2 2 i) p).1, (s1 E (m0.2.2 27) (m0.2.1 28) i (E.2 2 i) p).2.1, (s1 E (m0.2.2 27) (m0.2.1 28) i (E.2 2 i) p).2.2.1, i, E.2 2 i, p) := by
        simp only [sL]
        rw [if_neg h]
      rw [es, if_neg h]
      exact ⟨m2, rfl, g1, g2⟩
theorem look_eq {F : Nat} {m : MS} {e : Nat} {E : Ed} {k : Nat} (he : e < 6) (hN : NE m e E) (hw : WE E) (hk : k < E.1 4) (hF : 400 < F) : ∃ m2, N_Mo_look F m (nI e) (nI k) = some ((jd E (m.2.2 27) (m.2.1 28) k).1, m2) ∧ FrN m m2 ∧ ((jd E (m.2.2 27) (m.2.1 28) k).1 = 2 → m2.1 33 = (jd E (m.2.2 27) (m.2.1 28) k).2.1 ∧ m2.1 34 = (jd E (m.2.2 27) (m.2.1 28) k).2.2) := by
  have hw0 := hw
  obtain ⟨w1, w2, w3, w4, w5, w6, w7⟩ := hw
  obtain ⟨v1, v2, v3, v4, v5, v6⟩ := w7 k hk
  obtain ⟨nR1, nR2, nR3, nR4, nR5⟩ := hN.2.2.2 k hk
  have b0 : nI (12 * e) + nI k = nI (12 * e + k) := nI_add _ _
  have b1 : ¬ (nI (12 * e + k) < 0 ∨ 72 ≤ (nI (12 * e + k)).toNatClampNeg) := nI_in (by omega) (by decide)
  have b2 : (nI (12 * e + k)).toNatClampNeg = 12 * e + k := nI_clamp (by omega)
  obtain ⟨m2, e1, g1, g2⟩ := look_loop (F := F) (m0 := m) he hw0 hk (E.2 9 k - E.2 6 k) (E.2 6 k) F m (fun _ => 0) (by omega) (by omega) (Nat.le_refl _) hN (fun j hj => by omega) (by omega) rfl rfl
  rw [v4] at e1 g2
  refine ⟨m2, ?_, g1, ?_⟩
  · unfold N_Mo_look
    rw [nI_12, b0, if_neg b1, b2, nR2]
    exact e1
  · intro h
    unfold jd at h ⊢
    simp only at h ⊢
    apply g2
    by_cases c : (sL E (m.2.2 27) (m.2.1 28) (E.2 9 k - E.2 6 k) (E.2 6 k) 0 (fun _ => 0)).1 = 1 ∧ (sL E (m.2.2 27) (m.2.1 28) (E.2 9 k - E.2 6 k) (E.2 6 k) 0 (fun _ => 0)).2.2.2.1 < E.2 8 k
    · rw [if_pos c] at h; exact absurd h (by decide)
    · rw [if_neg c] at h; exact h
