/-! tables and rules, as the reader makes them -/
section OPS
variable {F : Nat} {z rd yy : Nat} {aw ar rel nw : Nat} {L : List (Nat × Nat)} {E : Ed} {s : XS}
theorem tables_begin (h : TR s z rd yy (E, aw, ar, rel, nw, L)) (h8 : E.1 3 ≤ 8) : ∃ x s2, X_Tables_begin F s (z + 9) = some (x, s2) ∧ Ow z rd yy s s2 ∧ (E.1 3 < 8 → x = 1 ∧ TR s2 z rd yy (bgT E, aw, ar, rel, nw, L)) ∧ (¬ E.1 3 < 8 → x = 0) := by
  obtain ⟨h1, h2, h3, hW⟩ := id h
  simp only at h1 h2 h3 hW
  have lay := h1.2.2.2.2.2.2
  have e1 := h1.1
  have et9 : xT s (z + 9) = 9 := e1.t 9
  have er0 : xR s (z + 9) 0 = some (z + 10) := e1.r 9 0 (q := 10)
  have er1 : xR s (z + 9) 1 = some (z + 11) := e1.r 9 1 (q := 11)
  have et11 : xT s (z + 11) = 20 := e1.t 11
  have el11 : xL s (z + 11) = 8 := e1.l 11
  have hn : xI s (z + 9) 2 = nI (E.1 3) := h2.2.2.1.1
  have a1 : ¬ nI (E.1 3) < 0 := nI_pos (by omega)
  have e8 : Int32.ofNat 8 = nI 8 := rfl
  by_cases c : E.1 3 < 8
  · have a2 : nI (E.1 3) < nI 8 := nI_lt c (by decide)
    have a3 : (nI (E.1 3)).toNatClampNeg = E.1 3 := nI_clamp (by omega)
    have a4 : ¬ 8 ≤ E.1 3 := by omega
    refine ⟨1, (xT s, xL s, xUp (xI s) (z + 9) 2 (nI (E.1 3 + 1)), xR s, xUp (xA s) (z + 11) (E.1 3) 0, xJ s, xO s, xZ s), ?_, Ow.up s (fun c hc => xUp_ne _ _ _ (by omega)) (fun c hc => xUp_ne _ _ _ (by omega)), fun _ => ⟨rfl, ?_, ?_, ?_, ?_⟩, fun q => absurd c q⟩
    · simp [X_Tables_begin, xGetI, et9, hn, a1, xGetA, er1, xLen, et11, el11, e8, a2, xStI, xSt, a3, a4, xPutI, nI_1, xpT, xpL, xpI, xpR, xpA, xpJ, xpO, xpZ, xInt, xN]
    · exact h1.keep rfl rfl rfl rfl rfl
    · obtain ⟨c1, ⟨c2, c3⟩, ⟨c4, c5⟩, c6⟩ := h2
      have u0 : xUp (xI s) (z + 9) 2 (nI (E.1 3 + 1)) z = xI s z := xUp_ne _ _ _ (by omega)
      have u1 : xUp (xI s) (z + 9) 2 (nI (E.1 3 + 1)) (z + 6) = xI s (z + 6) := xUp_ne _ _ _ (by omega)
      have u2 : xUp (xA s) (z + 11) (E.1 3) 0 (z + 7) = xA s (z + 7) := xUp_ne _ _ _ (by omega)
      have u3 : xUp (xA s) (z + 11) (E.1 3) 0 (z + 8) = xA s (z + 8) := xUp_ne _ _ _ (by omega)
      have u5 : xUp (xA s) (z + 11) (E.1 3) 0 (z + 10) = xA s (z + 10) := xUp_ne _ _ _ (by omega)
      refine ⟨?_, ⟨?_, fun i hi => ?_⟩, ⟨?_, fun t ht => ?_⟩, fun k hk => ?_⟩
      · show True ∧ xUp (xI s) (z + 9) 2 _ z 4 = _
        rw [u0]; exact c1
      · show xUp (xI s) (z + 9) 2 _ (z + 6) 2 = _
        rw [u1]; exact c2
      · show xUp (xA s) (z + 11) (E.1 3) 0 (z + 7) i = _ ∧ xUp (xA s) (z + 11) (E.1 3) 0 (z + 8) i = _
        rw [u2, u3]; exact c3 i hi
      · show xUp (xI s) (z + 9) 2 _ (z + 9) 2 = _
        simp [xUp, bgT, setS, setR]
      · simp [bgT, setS, setR] at ht
        show xUp (xA s) (z + 11) (E.1 3) 0 (z + 11) t = nI ((bgT E).2 3 t) ∧ ∀ k, k < (bgT E).2 3 t → xUp (xA s) (z + 11) (E.1 3) 0 (z + 10) (10 * t + k) = nI ((bgT E).2 4 (10 * t + k))
        rw [u5]
        by_cases ct : t = E.1 3
        · subst ct; simp [xUp, bgT, setS, setR, nIk0]
        · simp [xUp, bgT, setS, setR, ct]
          exact c5 t (by omega)
      · have : (bgT E).1 4 = E.1 4 := by simp [bgT, setS, setR]
        rw [this] at hk
        have u7 : xUp (xI s) (z + 9) 2 (nI (E.1 3 + 1)) (fe z yy (13 + k)) = xI s (fe z yy (13 + k)) := xUp_ne _ _ _ (by rw [fe_r]; omega)
        rw [xpI, u7]
        exact c6 k hk
    · unfold RD
      rw [xpI, xUp_ne _ _ _ (show rd ≠ z + 9 by omega)]
      exact h3
    · exact ⟨by rw [xpI, xUp_ne _ _ _ (show rd + 1 ≠ z + 9 by omega)]; exact hW.1, Wt.of (s := s) (xUp_ne _ _ _ (by omega)) (xUp_ne _ _ _ (by omega)) hW.2⟩
  · have a2 : ¬ nI (E.1 3) < nI 8 := nI_nlt (by omega) (by omega)
    refine ⟨0, s, ?_, Ow.refl z rd yy s, fun q => absurd q c, fun _ => rfl⟩
    simp [X_Tables_begin, xGetI, et9, hn, a1, xGetA, er1, xLen, et11, el11, e8, a2, xpT, xpL, xpI, xpR, xpA, xpJ, xpO, xpZ, xInt, xN]
theorem tables_last (h : TR s z rd yy (E, aw, ar, rel, nw, L)) (h8 : E.1 3 ≤ 8) (h1 : 1 ≤ E.1 3) : X_Tables_lastSize F s (z + 9) = some (nI (E.2 3 (E.1 3 - 1)), s) := by
  obtain ⟨hs, h2, -, -⟩ := id h
  simp only at hs h2
  have lay := hs.2.2.2.2.2.2
  have e1 := hs.1
  have et9 : xT s (z + 9) = 9 := e1.t 9
  have er1 : xR s (z + 9) 1 = some (z + 11) := e1.r 9 1 (q := 11)
  have et11 : xT s (z + 11) = 20 := e1.t 11
  have el11 : xL s (z + 11) = 8 := e1.l 11
  obtain ⟨n, hn⟩ : ∃ n, E.1 3 = n + 1 := ⟨E.1 3 - 1, by omega⟩
  have hi : xI s (z + 9) 2 = nI (n + 1) := by rw [← hn]; exact h2.2.2.1.1
  have a1 : ¬ nI n < 0 := nI_pos (by omega)
  have e8 : Int32.ofNat 8 = nI 8 := rfl
  have a2 : ¬ nI 8 ≤ nI n := nI_ge (by omega) (by decide)
  have a3 : (nI n).toNatClampNeg = n := nI_clamp (by omega)
  have a4 : ¬ 8 ≤ n := by omega
  have hz : xA s (z + 11) n = nI (E.2 3 n) := (h2.2.2.1.2 n (by omega)).1
  rw [hn, Nat.add_sub_cancel]
  simp [X_Tables_lastSize, xGetI, et9, hi, nI_pred, a1, xGetA, er1, xLen, et11, el11, e8, a2, xLdI, a3, a4, hz, xpT, xpL, xpI, xpR, xpA, xpJ, xpO, xpZ, xInt, xN]
theorem tables_add (h : TR s z rd yy (E, aw, ar, rel, nw, L)) (h8 : E.1 3 ≤ 8) (h1 : 1 ≤ E.1 3) (h10 : E.2 3 (E.1 3 - 1) ≤ 10) (v : Nat) : ∃ x s2, X_Tables_addNumber F s (z + 9) (nI v) = some (x, s2) ∧ Ow z rd yy s s2 ∧ (E.2 3 (E.1 3 - 1) < 10 → x = 1 ∧ TR s2 z rd yy (adN E v, aw, ar, rel, nw, L)) ∧ (¬ E.2 3 (E.1 3 - 1) < 10 → x = 0) := by
  have el := tables_last (F := F) h h8 h1
  obtain ⟨hs, h2, h3, hW⟩ := id h
  simp only at hs h2 h3 hW
  have lay := hs.2.2.2.2.2.2
  have e1 := hs.1
  have et9 : xT s (z + 9) = 9 := e1.t 9
  have er0 : xR s (z + 9) 0 = some (z + 10) := e1.r 9 0 (q := 10)
  have er1 : xR s (z + 9) 1 = some (z + 11) := e1.r 9 1 (q := 11)
  have et10 : xT s (z + 10) = 20 := e1.t 10
  have el10 : xL s (z + 10) = 80 := e1.l 10
  have et11 : xT s (z + 11) = 20 := e1.t 11
  have el11 : xL s (z + 11) = 8 := e1.l 11
  obtain ⟨n, hn⟩ : ∃ n, E.1 3 = n + 1 := ⟨E.1 3 - 1, by omega⟩
  have hi : xI s (z + 9) 2 = nI (n + 1) := by rw [← hn]; exact h2.2.2.1.1
  obtain ⟨k, hk⟩ : ∃ k, k = E.2 3 n := ⟨_, rfl⟩
  have hn1 : E.1 3 - 1 = n := by omega
  rw [hn1, ← hk] at el h10 ⊢
  have a1 : ¬ nI n < 0 := nI_pos (by omega)
  have e8 : Int32.ofNat 8 = nI 8 := rfl
  have e80 : Int32.ofNat 80 = nI 80 := rfl
  have a2 : ¬ nI 8 ≤ nI n := nI_ge (by omega) (by decide)
  have a3 : (nI n).toNatClampNeg = n := nI_clamp (by omega)
  have a4 : ¬ 8 ≤ n := by omega
  by_cases c : k < 10
  · have c1 : ¬ (10 : Int32) ≤ nI k := nI_ge (b := 10) c (by decide)
    have c2 : nI n * 10 + nI k = nI (10 * n + k) := by rw [nI_10, nI_add]
    have c3 : ¬ nI (10 * n + k) < 0 := nI_pos (by omega)
    have c4 : nI (10 * n + k) < nI 80 := nI_lt (by omega) (by decide)
    have c5 : (nI (10 * n + k)).toNatClampNeg = 10 * n + k := nI_clamp (by omega)
    have c6 : ¬ 80 ≤ 10 * n + k := by omega
    refine ⟨1, (xT s, xL s, xI s, xR s, xUp (xUp (xA s) (z + 10) (10 * n + k) (nI v)) (z + 11) n (nI (k + 1)), xJ s, xO s, xZ s), ?_, Ow.up s (fun _ _ => rfl) (fun c hc => by rw [xUp_ne _ _ _ (by omega), xUp_ne _ _ _ (by omega)]), fun _ => ⟨rfl, hs.keep rfl rfl rfl rfl rfl, ?_, h3, hW.1, Wt.of (s := s) (by rw [xpA, xUp_ne _ _ _ (by omega), xUp_ne _ _ _ (by omega)]) (by rw [xpA, xUp_ne _ _ _ (by omega), xUp_ne _ _ _ (by omega)]) hW.2⟩, fun q => absurd c q⟩
    · simp [X_Tables_addNumber, xGetI, et9, hi, xIs, el, nI_pred, a1, xGetA, er0, er1, xLen, et10, el10, et11, el11, e8, a2, c1, c2, c3, e80, c4, xStI, xSt, c5, c6, a3, a4, nI_1, xpT, xpL, xpI, xpR, xpA, xpJ, xpO, xpZ, xInt, xN]
    · obtain ⟨d1, ⟨d2, d3⟩, ⟨d4, d5⟩, d6⟩ := h2
      have u2 : xUp (xUp (xA s) (z + 10) (10 * n + k) (nI v)) (z + 11) n (nI (k + 1)) (z + 7) = xA s (z + 7) := by rw [xUp_ne _ _ _ (by omega), xUp_ne _ _ _ (by omega)]
      have u3 : xUp (xUp (xA s) (z + 10) (10 * n + k) (nI v)) (z + 11) n (nI (k + 1)) (z + 8) = xA s (z + 8) := by rw [xUp_ne _ _ _ (by omega), xUp_ne _ _ _ (by omega)]
      refine ⟨d1, ⟨d2, fun i hi => ?_⟩, ⟨d4, fun t ht => ?_⟩, fun k2 hk2 => ?_⟩
      · show xUp (xUp (xA s) (z + 10) (10 * n + k) (nI v)) (z + 11) n (nI (k + 1)) (z + 7) i = _ ∧ xUp (xUp (xA s) (z + 10) (10 * n + k) (nI v)) (z + 11) n (nI (k + 1)) (z + 8) i = _
        rw [u2, u3]; exact d3 i hi
      · have ht' : t < E.1 3 := ht
        obtain ⟨t1, t2⟩ := d5 t ht'
        have t1' : xA s (z + 11) t = nI (E.2 3 t) := t1
        have t2' : ∀ k, k < E.2 3 t → xA s (z + 10) (10 * t + k) = nI (E.2 4 (10 * t + k)) := t2
        show xUp (xUp (xA s) (z + 10) (10 * n + k) (nI v)) (z + 11) n (nI (k + 1)) (z + 11) t = nI ((adN E v).2 3 t) ∧ ∀ j, j < (adN E v).2 3 t → xUp (xUp (xA s) (z + 10) (10 * n + k) (nI v)) (z + 11) n (nI (k + 1)) (z + 10) (10 * t + j) = nI ((adN E v).2 4 (10 * t + j))
        have r3 : ∀ t, (adN E v).2 3 t = if t = n then k + 1 else E.2 3 t := fun t => by simp [adN, setR, hn1, hk]
        have r4 : ∀ i, (adN E v).2 4 i = if i = 10 * n + k then v else E.2 4 i := fun i => by simp [adN, setR, hn1, hk]
        rw [r3]
        refine ⟨?_, fun j hj => ?_⟩
        · by_cases ct : t = n
          · simp [xUp, ct]
          · simp [xUp, ct, t1']
        · rw [r4, xUp_ne _ _ _ (show z + 10 ≠ z + 11 by omega)]
          by_cases cj : 10 * t + j = 10 * n + k
          · simp [xUp, cj]
          · simp [xUp, cj]
            apply t2'
            by_cases ct : t = n
            · simp [ct] at hj
              subst ct
              omega
            · simpa [ct] using hj
      · exact d6 k2 hk2
  · have c1 : (10 : Int32) ≤ nI k := nI_le (a := 10) (by omega) (by omega)
    refine ⟨0, s, ?_, Ow.refl z rd yy s, fun q => absurd q c, fun _ => rfl⟩
    simp [X_Tables_addNumber, xGetI, et9, hi, xIs, el, nI_pred, a1, xGetA, er1, xLen, et11, el11, e8, a2, c1, xpT, xpL, xpI, xpR, xpA, xpJ, xpO, xpZ, xInt, xN]
/-- the rule that is being read -/
theorem rule_last (h : TR s z rd yy (E, aw, ar, rel, nw, L)) (h12 : E.1 4 ≤ 12) (h1 : 1 ≤ E.1 4) : X_Edition_ruleAt F s z (nI (E.1 4) - 1) = some (some (yy + (E.1 4 - 1)), s) := by
  obtain ⟨hs, h2, -, -⟩ := id h
  simp only at hs h2
  have lay := hs.2.2.2.2.2.2
  have e1 := hs.1
  obtain ⟨n, hn⟩ : ∃ n, E.1 4 = n + 1 := ⟨E.1 4 - 1, by omega⟩
  have et0 : xT s z = 2 := e1.t 0
  have er4 : xR s z 3 = some (z + 12) := e1.r 0 3 (q := 12)
  have et12 : xT s (z + 12) = 46 := e1.t 12
  have el12 : xL s (z + 12) = 12 := e1.l 12
  have hi : xI s z 4 = nI (n + 1) := by rw [← hn]; exact h2.1.2
  have ho : xO s (z + 12) n = some (yy + n) := by
    have := e1.2.2.1 n (by omega)
    rw [fe_r] at this
    exact this
  have a1 : ¬ nI n < 0 := nI_pos (by omega)
  have a2 : ¬ nI (n + 1) ≤ nI n := nI_ge (by omega) (by omega)
  have e12 : Int32.ofNat 12 = nI 12 := rfl
  have a3 : ¬ nI 12 ≤ nI n := nI_ge (by omega) (by decide)
  have a4 : (nI n).toNatClampNeg = n := nI_clamp (by omega)
  have a5 : ¬ 12 ≤ n := by omega
  rw [hn, nI_pred, Nat.add_sub_cancel]
  simp [X_Edition_ruleAt, a1, xGetI, et0, hi, a2, xGetA, er4, xLen, et12, el12, e12, a3, xLdO, a4, a5, ho, xpT, xpL, xpI, xpR, xpA, xpJ, xpO, xpZ, xInt, xN]
/-- a field of the rule that is being read: 3 need, 2 end word, 4 end -/
theorem rule_put (h : TR s z rd yy (E, aw, ar, rel, nw, L)) (h12 : E.1 4 ≤ 12) (h1 : 1 ≤ E.1 4) {k : Nat} (hk : k = 2 ∨ k = 3 ∨ k = 4) (v : Nat) : ∃ s2, xPutI s (yy + (E.1 4 - 1)) 6 k (nI v) = some s2 ∧ Ow z rd yy s s2 ∧ TR s2 z rd yy (setR E (k + 5) (E.1 4 - 1) v, aw, ar, rel, nw, L) ∧ xT s2 = xT s ∧ xR s2 = xR s ∧ xI s2 (z + 6) = xI s (z + 6) := by
  obtain ⟨hs, h2, h3, hW⟩ := id h
  simp only at hs h2 h3 hW
  have lay := hs.2.2.2.2.2.2
  have e1 := hs.1
  have tk : xT s (yy + (E.1 4 - 1)) = 7 := by
    have := e1.rt (k := E.1 4 - 1) (by omega)
    rw [fe_r] at this
    exact this
  refine ⟨(xT s, xL s, xUp (xI s) (yy + (E.1 4 - 1)) k (nI v), xR s, xA s, xJ s, xO s, xZ s), ?_, Ow.up s (fun c hc => xUp_ne _ _ _ (by omega)) (fun _ _ => rfl), ⟨hs.keep rfl rfl rfl rfl rfl, ?_, ?_, ?_, Wt.of (s := s) (by rfl) (by rfl) hW.2⟩, rfl, rfl, xUp_ne _ _ _ (by omega)⟩
  · rcases hk with rfl | rfl | rfl <;> simp [xPutI, tk, xpT, xpL, xpI, xpR, xpA, xpJ, xpO, xpZ, xInt, xN]
  · obtain ⟨d1, ⟨d2, d3⟩, ⟨d4, d5⟩, d6⟩ := h2
    have r0 : ∀ j, j ≤ 4 → (setR E (k + 5) (E.1 4 - 1) v).2 j = E.2 j := fun j hj => setR_o _ _ _ _ (by omega)
    have u0 : xUp (xI s) (yy + (E.1 4 - 1)) k (nI v) z = xI s z := xUp_ne _ _ _ (by omega)
    have u1 : xUp (xI s) (yy + (E.1 4 - 1)) k (nI v) (z + 6) = xI s (z + 6) := xUp_ne _ _ _ (by omega)
    have u4 : xUp (xI s) (yy + (E.1 4 - 1)) k (nI v) (z + 9) = xI s (z + 9) := xUp_ne _ _ _ (by omega)
    refine ⟨?_, ⟨?_, fun i hi => ?_⟩, ⟨?_, fun t ht => ?_⟩, fun i hi => ?_⟩
    · show True ∧ xUp (xI s) (yy + (E.1 4 - 1)) k (nI v) z 4 = _
      rw [u0]; exact d1
    · show xUp (xI s) (yy + (E.1 4 - 1)) k (nI v) (z + 6) 2 = _
      rw [u1]; exact d2
    · rw [r0 0 (by decide), r0 1 (by decide)]; exact d3 i hi
    · show xUp (xI s) (yy + (E.1 4 - 1)) k (nI v) (z + 9) 2 = _
      rw [u4]; exact d4
    · rw [r0 3 (by decide), r0 4 (by decide)]; exact d5 t ht
    · have hi' : i < E.1 4 := hi
      have q6 := d6 i hi'
      rw [fe_r] at q6 ⊢
      show xUp (xI s) (yy + (E.1 4 - 1)) k (nI v) (yy + i) 0 = nI ((setR E (k + 5) (E.1 4 - 1) v).2 5 i) ∧ xUp (xI s) (yy + (E.1 4 - 1)) k (nI v) (yy + i) 1 = nI ((setR E (k + 5) (E.1 4 - 1) v).2 6 i) ∧ xUp (xI s) (yy + (E.1 4 - 1)) k (nI v) (yy + i) 2 = nI ((setR E (k + 5) (E.1 4 - 1) v).2 7 i) ∧ xUp (xI s) (yy + (E.1 4 - 1)) k (nI v) (yy + i) 3 = nI ((setR E (k + 5) (E.1 4 - 1) v).2 8 i) ∧ xUp (xI s) (yy + (E.1 4 - 1)) k (nI v) (yy + i) 4 = nI ((setR E (k + 5) (E.1 4 - 1) v).2 9 i)
      obtain ⟨q0, q1, q2, q3, q4⟩ := q6
      by_cases ci : i = E.1 4 - 1
      · subst ci
        rcases hk with rfl | rfl | rfl <;> simp [xUp, setR, q0, q1, q2, q3, q4]
      · rw [xUp_ne _ _ _ (show yy + i ≠ yy + (E.1 4 - 1) by omega)]
        rcases hk with rfl | rfl | rfl <;> simp [setR, ci, q0, q1, q2, q3, q4]
  · unfold RD
    rw [xpI, xUp_ne _ _ _ (show rd ≠ yy + (E.1 4 - 1) by omega)]
    exact h3
  · rw [xpI, xUp_ne _ _ _ (show rd + 1 ≠ yy + (E.1 4 - 1) by omega)]; exact hW.1
theorem beginNeed_eq (h : TR s z rd yy (E, aw, ar, rel, nw, L)) (h12 : E.1 4 ≤ 12) (h1 : 1 ≤ E.1 4) : ∃ s2, X_Edition_beginNeed F s z = some s2 ∧ Ow z rd yy s s2 ∧ TR s2 z rd yy (bgN E, aw, ar, rel, nw, L) := by
  have er := rule_last (F := F) h h12 h1
  obtain ⟨s2, x, o, T, -, -, -⟩ := rule_put h h12 h1 (k := 3) (by decide) (E.1 2)
  obtain ⟨hs, h2, -, -⟩ := id h
  simp only at hs h2
  have lay := hs.2.2.2.2.2.2
  have e1 := hs.1
  have et0 : xT s z = 2 := e1.t 0
  have er2 : xR s z 1 = some (z + 6) := e1.r 0 1 (q := 6)
  have et6 : xT s (z + 6) = 8 := e1.t 6
  have hi : xI s z 4 = nI (E.1 4) := h2.1.2
  have hc : xI s (z + 6) 2 = nI (E.1 2) := h2.2.1.1
  refine ⟨s2, ?_, o, T⟩
  simp [X_Edition_beginNeed, xGetI, et0, hi, xIs, er, hCase, xGetA, er2, et6, hc, x, xpT, xpL, xpI, xpR, xpA, xpJ, xpO, xpZ, xInt, xN]
theorem endRule_eq (h : TR s z rd yy (E, aw, ar, rel, nw, L)) (h12 : E.1 4 ≤ 12) (h1 : 1 ≤ E.1 4) (v : Nat) : ∃ s2, X_Edition_endRule F s z (nI v) = some s2 ∧ Ow z rd yy s s2 ∧ TR s2 z rd yy (edR E v, aw, ar, rel, nw, L) := by
  have er := rule_last (F := F) h h12 h1
  obtain ⟨s2, x, o, T, hT2, hR2, hI2⟩ := rule_put h h12 h1 (k := 2) (by decide) v
  obtain ⟨s3, x3, o3, T3, -, -, -⟩ := rule_put T h12 h1 (k := 4) (by decide) (E.1 2)
  obtain ⟨hs, h2, -, -⟩ := id h
  simp only at hs h2
  have lay := hs.2.2.2.2.2.2
  have e1 := hs.1
  have et0 : xT s z = 2 := e1.t 0
  have er2 : xR s z 1 = some (z + 6) := e1.r 0 1 (q := 6)
  have et6 : xT s (z + 6) = 8 := e1.t 6
  have hi : xI s z 4 = nI (E.1 4) := h2.1.2
  have hc : xI s (z + 6) 2 = nI (E.1 2) := h2.2.1.1
  have et02 : xT s2 z = 2 := by rw [hT2]; exact et0
  have er22 : xR s2 z 1 = some (z + 6) := by rw [hR2]; exact er2
  have et62 : xT s2 (z + 6) = 8 := by rw [hT2]; exact et6
  have hc2 : xI s2 (z + 6) 2 = nI (E.1 2) := by rw [hI2]; exact hc
  refine ⟨s3, ?_, o.trans o3, T3⟩
  have x3' : xPutI s2 (yy + (E.1 4 - 1)) 6 4 (nI (E.1 2)) = some s3 := x3
  simp [X_Edition_endRule, xGetI, et0, hi, xIs, er, hCase, x, xGetA, et02, er22, et62, hc2, x3', xpT, xpL, xpI, xpR, xpA, xpJ, xpO, xpZ, xInt, xN]
end OPS
