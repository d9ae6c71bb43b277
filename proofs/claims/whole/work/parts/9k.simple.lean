/-! THE SIMPLE CALLS, WITH ALL THAT IS KEPT -/
section SIMPLE
variable {F : Nat} {s : XS} {a : Nat → Nat} {m : MS} {n : Nat} {rc : Nat → Nat} {Es : Nat → Ed} {nt : Nat} {v : Nat → Nat} {B : Nat}
theorem unit_inv (I : Inv s a m n rc Es nt v B) (u : Int32) : ∃ r s2 m2 nt2, X_LT_unit F s (a 0) u = some (r, s2) ∧ N_Mo_unit F m u = some (r, m2) ∧ Inv s2 a m2 n rc Es nt2 v B := by
  obtain ⟨H, h1, h2, h3, h4, h5, h6, h7⟩ := id I
  by_cases hn : nt < 800
  · obtain ⟨s2, m2, e1, e2, T2, f2, em⟩ := unit_both (F := F) H h1 hn u
    have g : FrR a s s2 [21, 22] [23, 24, 25] [] := Fr.g f2
    have gm : FrM m m2 [0, 2] [1] [] := by
      rw [em]
      refine ⟨fun k hk => ?_, fun k hk => ?_, fun _ _ => rfl⟩
      · simp at hk; simp [upd, hk]
      · simp at hk; simp [hk]
    exact ⟨1, s2, m2, nt + 1, e1, e2, H.frR g, T2, h2.fr H g gm (by decide), h3.fr H g gm (by decide), h4.fr H g gm (by decide), h5.fr H g gm (by decide), h6.fr H g gm (by decide), fun e he => (h7 e he).fr H he g gm (by decide)⟩
  · have h8 : nt = 800 := by have := h1.1.2.2.1; omega
    subst h8
    have t0 : xT s (a 0) = 12 := H.t 0
    have r0_0 : xR s (a 0) 0 = some (a 1) := H.r 0 0
    have r0_2 : xR s (a 0) 2 = some (a 26) := H.r 0 2
    have r0_3 : xR s (a 0) 3 = some (a 34) := H.r 0 3
    have r0_4 : xR s (a 0) 4 = some (a 2) := H.r 0 4
    have r0_5 : xR s (a 0) 5 = some (a 5) := H.r 0 5
    have r0_6 : xR s (a 0) 6 = some (a 7) := H.r 0 6
    have r0_7 : xR s (a 0) 7 = some (a 12) := H.r 0 7
    have r0_8 : xR s (a 0) 8 = some (a 17) := H.r 0 8
    have r0_9 : xR s (a 0) 9 = some (a 19) := H.r 0 9
    have t21 : xT s (a 21) = 11 := H.t 21
    have r21_0 : xR s (a 21) 0 = some (a 22) := H.r 21 0
    have r21_1 : xR s (a 21) 1 = some (a 24) := H.r 21 1
    have r21_2 : xR s (a 21) 2 = some (a 25) := H.r 21 2
    have t22 : xT s (a 22) = 1 := H.t 22
    have r22_0 : xR s (a 22) 0 = some (a 23) := H.r 22 0
    have t23 : xT s (a 23) = 21 := H.t 23
    have l23 : xL s (a 23) = 800 := H.l 23
    have t26 : xT s (a 26) = 2 := H.t 26
    have r26_0 : xR s (a 26) 0 = some (a 21) := H.r 26 0
    have r26_1 : xR s (a 26) 1 = some (a 27) := H.r 26 1
    have r26_2 : xR s (a 26) 2 = some (a 30) := H.r 26 2
    have r26_3 : xR s (a 26) 3 = some (a 33) := H.r 26 3
    obtain ⟨⟨W, hb, -⟩, hm, -⟩ := h1
    refine ⟨0, s, sPut m 0 0, 800, ?_, ?_, I.code 0⟩
    · have e8 : Int32.ofNat 800 = 800 := rfl
      have n8 : nI 800 = 800 := rfl
      have hb' : xI s (a 22) 1 = 800 := hb
      simp [X_LT_unit, xGetA, t0, r0_2, t26, r26_0, xIs, t21, X_Words_append, r21_0, xGetI, t22, hb', X_Bytes_append, r22_0, xLen, t23, l23, e8, hZ, xpT, xpL, xpI, xpR, xpA, xpJ, xpO, xpZ, xInt, xN]
    · have e2 : upd m.1 0 0 2 = 800 := by simp [upd]; exact hm
      simp [N_Mo_unit, sPut, e2]
theorem editions_inv (I : Inv s a m n rc Es nt v B) : ∃ r m2, X_LT_editions F s (a 0) = some (r, s) ∧ N_Mo_editions F m = some (r, m2) ∧ Inv s a m2 n rc Es nt v B := by
  have h := editions_both (F := F) I.1 (I.2.2.2.2.2.1.1.1.trans I.2.2.2.2.2.1.1.2.symm)
  exact ⟨_, _, h.1, h.2, I.code 0⟩
theorem written_inv (I : Inv s a m n rc Es nt v B) (x : Int32) : ∃ r m2, X_LT_written F s (a 0) x = some (r, s) ∧ N_Mo_written F m x = some (r, m2) ∧ Inv s a m2 n rc Es nt v B := by
  obtain ⟨r, e1, e2⟩ := written_both (F := F) I.1 I.2.2.2.2.1 x
  exact ⟨r, _, e1, e2, I.code 0⟩
theorem byCatch_inv (I : Inv s a m n rc Es nt v B) (hB : B < 2 ^ 40) (hF : 500 ≤ F) (x y w : Int32) : ∃ r m2, X_LT_byCatch F s (a 0) x y w = some (r, s) ∧ N_Mo_byCatch F m x y w = some (r, m2) ∧ Inv s a m2 n rc Es nt v B := by
  obtain ⟨r, e1, e2⟩ := byCatch_both (F := F) I.1 I.2.2.2.1 hB hF x y w
  exact ⟨r, _, e1, e2, I.code 0⟩
theorem haul_inv (I : Inv s a m n rc Es nt v B) (x y : Int32) (g : Int64) : ∃ r s2 m2 v2, X_LT_haul F s (a 0) x y g = some (r, s2) ∧ N_Mo_haul F m x y g = some (r, m2) ∧ Inv s2 a m2 n rc Es nt v2 (B + 1000000000) := by
  obtain ⟨H, h1, h2, h3, h4, h5, h6, h7⟩ := id I
  obtain ⟨r, s2, m2, v2, e1, e2, h8, ⟨j, ej, hj⟩, ⟨k, ek, hk⟩⟩ := haul_both (F := F) H h3 x y g
  have gg : FrR a s s2 [] [] [20] := by
    rw [ej]
    exact ⟨rfl, rfl, rfl, rfl, rfl, fun _ _ => rfl, fun _ _ => rfl, fun c hc => hj c (fun e => hc (by simp [e]))⟩
  have gm : FrM m m2 [0] [] [38] := by
    rw [ek]
    exact ⟨fun k hk => by simp at hk; simp [upd, hk], fun _ _ => rfl, fun k2 h2 => hk k2 (by simpa using h2)⟩
  exact ⟨r, s2, m2, v2, e1, e2, H.frR gg, h1.fr H gg gm (by decide), h2.fr H gg gm (by decide), h8, h4.fr H gg gm (by decide), h5.fr H gg gm (by decide), h6.fr H gg gm (by decide), fun e he => (h7 e he).fr H he gg gm (by decide)⟩
theorem fact_inv (I : Inv s a m n rc Es nt v B) (x : Int32) (y : Int64) : ∃ r s2 m2, X_LT_fact F s (a 0) x y = some (r, s2) ∧ N_Mo_fact F m x y = some (r, m2) ∧ Inv s2 a m2 n rc Es nt v B := by
  by_cases hx : x < 0 ∨ 20 ≤ x
  · exact ⟨0, s, sPut m 0 0, X_LT_fact_out I.1 hx y, N_Mo_fact_out hx y, I.code 0⟩
  · obtain ⟨j, hj, rfl⟩ : ∃ j : Nat, j < 20 ∧ x = nI j := by
      rcases ix20 x with h | h | h
      · exact absurd (Or.inl h) hx
      · exact absurd (Or.inr h) hx
      · exact h
    obtain ⟨H, h1, h2, h3, h4, h5, h6, h7⟩ := I.code 0
    have g := FrR.facts s a (xUp (xA s) (a 4) j 1) (xUp (xJ s) (a 3) j y) (fun c hc => xUp_ne _ _ _ hc) (fun c hc => xUp_ne _ _ _ hc)
    have gm := FrM.facts (sPut m 0 0) j y 1
    exact ⟨1, _, _, X_LT_fact_in H hj y, N_Mo_fact_in hj y, H.frR g, h1.fr H g gm (by decide), h2.put H hj y 1 (Or.inr rfl), h3.fr H g gm (by decide), h4.fr H g gm (by decide), h5.fr H g gm (by decide), h6.fr H g gm (by decide), fun e he => (h7 e he).fr H he g gm (by decide)⟩
theorem clear_inv (I : Inv s a m n rc Es nt v B) (hF : 100 ≤ F) : ∃ r s2 m2, X_LT_clearFacts F s (a 0) = some (r, s2) ∧ N_Mo_clearFacts F m = some (r, m2) ∧ Inv s2 a m2 n rc Es nt v B := by
  obtain ⟨H, h1, h2, h3, h4, h5, h6, h7⟩ := id I
  have e1 := X_LT_clearFacts_eq (F := F) H hF
  have e2 := N_Mo_clearFacts_eq (F := F) (m := m) hF
  rw [h2.tc] at e1
  have g : FrR a s (xT s, xL s, xI s, xR s, xUq (xA s) (a 4) (clr (xA s (a 4)) 0), xJ s, xO s, xZ s) [] [4] [3] := FrR.facts s a _ _ (fun c hc => xUq_ne _ _ hc) (fun c _ => rfl)
  have gm : FrM m (upd m.1 0 0, xUq m.2.1 28 (clr (m.2.1 28) 0), m.2.2) [0] [28] [] := ⟨fun k hk => by simp at hk; simp [upd, hk], fun k hk => by simp at hk; exact xUq_ne _ _ hk, fun _ _ => rfl⟩
  exact ⟨_, _, _, e1, e2, H.frR g, h1.fr H g gm (by decide), h2.clear, h3.fr H g gm (by decide), h4.fr H g gm (by decide), h5.fr H g gm (by decide), h6.fr H g gm (by decide), fun e he => (h7 e he).fr H he g gm (by decide)⟩
/-! table -/
theorem i32_l (x : Int32) : x < 0 ∨ ∃ j : Nat, j < 2 ^ 31 ∧ x = nI j := by
  by_cases h : x < 0
  · exact Or.inl h
  · exact Or.inr (nI_of h)
theorem X_numberAt_t {w c : Nat} (tw : xT s w = 9) (hc : xI s w 2 = nI c) {t : Int32} (ht : t < 0 ∨ nI c ≤ t) (x : Int64) : X_Tables_numberAt F s w t x = some (-1, s) := by
  by_cases h1 : t < 0
  · simp [X_Tables_numberAt, h1]
  · simp [X_Tables_numberAt, h1, xGetI, tw, hc, ht.resolve_left h1, xpT, xpL, xpI, xpR, xpA, xpJ, xpO, xpZ, xInt, xN]
theorem table_inv (I : Inv s a m n rc Es nt v B) (hF : 6 < F) (day t k : Int32) : X_LT_editionOn F s (a 0) day = some ((eo Es day n).map (fun e => a (eR e 0)), s) ∧
    ((eo Es day n = none ∧ N_Mo_table F m day t k = some (0, sPut m 0 1)) ∨ (∃ e, eo Es day n = some e ∧ xR s (a (eR e 0)) 2 = some (a (eR e 9)) ∧ xT s (a (eR e 0)) = 2 ∧ xT s (a (eR e 9)) = 9 ∧ ((X_Tables_numberAt F s (a (eR e 9)) t k.toInt64 = some (-1, s) ∧ N_Mo_table F m day t k = some (0, sPut m 0 1)) ∨ ∃ w : Nat, w < 1000000000 ∧ X_Tables_numberAt F s (a (eR e 9)) t k.toInt64 = some (nI w, s) ∧ N_Mo_table F m day t k = some (nI w, sPut m 0 0)))) := by
  obtain ⟨H, h1, h2, h3, h4, h5, h6, h7⟩ := id I
  have en := h5.en H
  have n6 := en.2.1
  have eX := editionOn_eq (F := F) H h5 (by omega) day
  have eN := editionOf_eq (F := F) en (by omega) day
  refine ⟨eX, ?_⟩
  cases he : eo Es day n with
  | none =>
    rw [he] at eN
    left
    refine ⟨rfl, ?_⟩
    simp [N_Mo_table, eN, oI, N_Mo_table_40, N_Mo_table_41, N_Mo_table_72, N_Mo_table_73, N_Mo_table_86]
  | some e =>
    rw [he] at eN
    right
    have hen := eo_lt he
    obtain ⟨q1, q2, q3, q4⟩ := h5.2 e hen
    have K := H.ed hen
    have et0 : xT s (a (eR e 0)) = 2 := K.t 0
    have et9 : xT s (a (eR e 9)) = 9 := K.t 9
    have et10 : xT s (a (eR e 10)) = 20 := K.t 10
    have el10 : xL s (a (eR e 10)) = 80 := K.l 10
    have et11 : xT s (a (eR e 11)) = 20 := K.t 11
    have el11 : xL s (a (eR e 11)) = 8 := K.l 11
    have er0 : xR s (a (eR e 9)) 0 = some (a (eR e 10)) := K.r 9 0
    have er1 : xR s (a (eR e 9)) 1 = some (a (eR e 11)) := K.r 9 1
    have re : xR s (a (eR e 0)) 2 = some (a (eR e 9)) := K.r 0 2
    refine ⟨e, rfl, re, et0, et9, ?_⟩
    have h8 := q3.2.2.1
    have cT := q1.2.2.1.1
    simp only at cT
    have d0 : ¬ nI e < 0 := nI_pos (by omega)
    have d00 : 0 ≤ nI e := nI_pos' (by omega)
    have d1 : (nI e).toNatClampNeg = e := nI_clamp (by omega)
    have d2 : ¬ 6 ≤ e := by omega
    have d3 : m.2.1 10 e = nI ((Es e).1 3) := q2.1.2.2
    rcases pk_ix t (n := (Es e).1 3) (by omega) with c | c | ⟨j, hj, rfl⟩
    · left
      refine ⟨X_numberAt_t et9 cT (Or.inl c) _, ?_⟩
      simp [N_Mo_table, eN, oI, d0, c, N_Mo_table_40, N_Mo_table_41, N_Mo_table_72, N_Mo_table_73, N_Mo_table_86]
    · left
      refine ⟨X_numberAt_t et9 cT (Or.inr c) _, ?_⟩
      by_cases c0 : t < 0
      · simp [N_Mo_table, eN, oI, d0, c0, N_Mo_table_40, N_Mo_table_41, N_Mo_table_72, N_Mo_table_73, N_Mo_table_86]
      · simp [N_Mo_table, eN, oI, d0, d00, c0, N_Mo_table_32, d1, d2, d3, c, N_Mo_table_40, N_Mo_table_41, N_Mo_table_72, N_Mo_table_73, N_Mo_table_86]
    · obtain ⟨z1, z2⟩ := q3.2.2.2.2.2.1 j hj
      obtain ⟨y1, y2⟩ := q1.2.2.1.2 j hj
      obtain ⟨v1, v2⟩ := q2.2.2.1 j hj
      simp only at y1 y2
      have b0 : ¬ nI j < 0 := nI_pos (by omega)
      have b1 : ¬ nI ((Es e).1 3) ≤ nI j := nI_ge hj (by omega)
      have c1 : nI (8 * e) + nI j = nI (8 * e + j) := nI_add _ _
      have c2 : ¬ nI (8 * e + j) < 0 := nI_pos (by omega)
      have c3 : (nI (8 * e + j)).toNatClampNeg = 8 * e + j := nI_clamp (by omega)
      have c4 : ¬ 48 ≤ 8 * e + j := by omega
      have bad : (k < 0 ∨ nI ((Es e).2 3 j) ≤ k) → X_Tables_numberAt F s (a (eR e 9)) (nI j) k.toInt64 = some (-1, s) ∧ N_Mo_table F m day (nI j) k = some (0, sPut m 0 1) := by
        intro hk
        constructor
        · apply X_numberAt_out (F := F) et9 er0 er1 et11 el11 cT hj h8 y1
          rcases hk with hk | hk
          · left
            rw [Int64.lt_iff_toInt_lt, Int32.toInt_toInt64]
            rw [Int32.lt_iff_toInt_lt] at hk
            exact hk
          · right
            rw [Int64.le_iff_toInt_le, Int32.toInt_toInt64, Int32.toInt_toInt64]
            rw [Int32.le_iff_toInt_le] at hk
            exact hk
        · by_cases k0 : k < 0
          · simp [N_Mo_table, eN, oI, d0, d00, b0, N_Mo_table_32, d1, d2, d3, b1, N_Mo_table_41, k0, N_Mo_table_72, N_Mo_table_73, N_Mo_table_86]
          · have k1 := hk.resolve_left k0
            simp [N_Mo_table, eN, oI, d0, d00, b0, N_Mo_table_32, d1, d2, d3, b1, N_Mo_table_41, k0, nI_8, c1, c2, c3, c4, v1, k1, N_Mo_table_72, N_Mo_table_73, N_Mo_table_86]
      rcases pk_ix k (n := (Es e).2 3 j) (by omega) with c | c | ⟨i, hi, rfl⟩
      · left; exact bad (Or.inl c)
      · left; exact bad (Or.inr c)
      · right
        refine ⟨(Es e).2 4 (10 * j + i), z2 i hi, ?_, ?_⟩
        · rw [nI_l (by omega), X_numberAt_in (F := F) et9 er0 er1 et10 el10 et11 el11 cT hj h8 y1 z1 hi, y2 i hi]
        · have k0 : ¬ nI i < 0 := nI_pos (by omega)
          have k1 : ¬ nI ((Es e).2 3 j) ≤ nI i := nI_ge hi (by omega)
          have d4 : nI (80 * e) + nI (10 * j) + nI i = nI (80 * e + 10 * j + i) := by rw [nI_add, nI_add]
          have d5 : ¬ nI (80 * e + 10 * j + i) < 0 := nI_pos (by omega)
          have d6 : (nI (80 * e + 10 * j + i)).toNatClampNeg = 80 * e + 10 * j + i := nI_clamp (by omega)
          have d7 : ¬ 480 ≤ 80 * e + 10 * j + i := by omega
          have d8 : (sPut m 0 0).2.1 12 (80 * e + 10 * j + i) = nI ((Es e).2 4 (10 * j + i)) := v2 i hi
          simp [N_Mo_table, eN, oI, d0, d00, b0, N_Mo_table_32, d1, d2, d3, b1, N_Mo_table_41, k0, nI_8, c1, c2, c3, c4, v1, k1, N_Mo_table_73, N_Mo_table_86, nI_80, nI_10', d4, d5, d6, d7, d8]
end SIMPLE
