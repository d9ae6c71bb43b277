section BEHIND
variable {F : Nat} {z rd yy nt : Nat} {aw ar rel nw : Nat} {L : List (Nat × Nat)} {E : Ed} {s : XS} {i : Nat} {t : Int32}
theorem take_behind (h : TR s z rd yy (E, 5, ar, rel, nw, L)) (hw : WFS (E, 5, ar, rel, nw, L) i) (hi : i < 400) (hF : 400 < F) (hk : ∀ s2, Ow z rd yy s s2 → Tk F s2 (z + 1) i t) : TkR s z rd yy (X_TextReader_takeBehindAtom F s rd (nI i)) (ta (E, 5, ar, rel, nw, L) i t) := by
  obtain ⟨hs, h2, h3, hW⟩ := id h
  simp only at hs h2 h3 hW
  have lay := hs.2.2.2.2.2.2
  obtain ⟨e1, ⟨t8, r80, r81, r82, r83⟩, -⟩ := id hs
  have tw : xT s (z + 1) = 11 := e1.t 1
  have hk0 := hk s (Ow.refl z rd yy s)
  have eo := operatorAt_eq (F := F) hs hk0
  have i12 := hk0.1 12 (by decide)
  simp only [cd] at i12
  have hw0 := hw
  obtain ⟨hb, hw | hw⟩ := hw
  · have := hw.1; simp at this
  · obtain ⟨-, -, hF1, hR, hL, hd2, ha, ha13, ha12, hrel, hnw, hh⟩ := hw
    simp only at hb hF1 hR hL hd2 ha ha13 ha12 hrel hnw hh
    simp only [if_true] at hh
    have ia : xI s rd 5 = nI ar := h3.2.1
    have hr1 : (if rel = 0 then 0 else 1) ≤ 1 := by split <;> omega
    have st := fun r (hr : 1 ≤ r) => stl_ok (tc := E.1 3) (rho := if rel = 0 then 0 else 1) (r := r) hr (L := L) (E := E) (ar := ar) hL hF1.2.2.2.1 rfl ha (by omega) hr1 hh
    show TkR s z rd yy _ (tb E ar rel nw L i t)
    unfold tb
    rcases opk_rng t with ho | ho
    · rw [if_neg (by omega)]
      rw [if_pos ho] at eo
      obtain ⟨s1, x1, o1, T1⟩ := settle_eq (F := F) (rk := 1) (by decide) (by decide) h hL ha ha13 (by omega) hF
      rw [nIk1] at x1
      obtain ⟨i1, i2, i3, i4, i5, i6, i7, i8⟩ := st 1 (by decide)
      have e3 := i2.1 3 (by decide)
      have e4 := i2.1 4 (by decide)
      obtain ⟨L1, hL1⟩ : ∃ x, x = (stl 1 L E ar).1 := ⟨_, rfl⟩
      obtain ⟨E1, hE1⟩ : ∃ x, x = (stl 1 L E ar).2.1 := ⟨_, rfl⟩
      obtain ⟨a1, ha1⟩ : ∃ x, x = (stl 1 L E ar).2.2 := ⟨_, rfl⟩
      rw [← hL1, ← hE1, ← ha1] at T1 ⊢
      rw [← hL1] at i3 i4 i6 i7 i8
      rw [← hE1] at i1 i2 i6 i7 e3 e4
      rw [← ha1] at i4 i5
      obtain ⟨hs1, -, h31, hW1⟩ := id T1
      simp only at hs1 h31 hW1
      obtain ⟨e11, ⟨t81, r801, r811, r821, r831⟩, ⟨t91, r901, r911⟩, ⟨t101, l101⟩, ⟨t111, l111⟩, -⟩ := id hs1
      have tw1 : xT s1 (z + 1) = 11 := e11.t 1
      by_cases c0 : 0 < ar
      · rw [if_pos c0]
        have c0' : ¬ nI ar ≤ 0 := nI_nle c0 (by omega)
        by_cases c1 : t = -9
        · rw [if_pos c1]
          -- the bracket is closed
          cases hq : L1 with
          | nil =>
            simp only
            have hi9 : xI s1 (rd + 1) 2 = 0 := by rw [hW1.1, hq]; rfl
            have ek : X_Steps_kindAt F s1 (rd + 1) (-1) = some (-1, s1) := by simp [X_Steps_kindAt]
            refine TkR.no (s2 := s1) ?_ o1
            simp [X_TextReader_takeBehindAtom, xIs, t8, eo, xGetI, ia, c0', xGetA, r81, tw, i12, c1, X_TextReader_closeBracket, x1, t81, r831, t91, hi9, ek, xpT, xpL, xpI, xpR, xpA, xpJ, xpO, xpZ, xInt, xN]
          | cons x L2 =>
            simp only
            rw [hq] at hW1 T1 i3 i4 i7
            obtain ⟨k, v⟩ := x
            obtain ⟨k2, k8⟩ := wa_k i3
            simp only at k2 k8
            have hi9 : xI s1 (rd + 1) 2 = nI (L2.length + 1) := hW1.1
            simp only [List.length_cons] at i7
            obtain ⟨ek, -⟩ := X_kindAt_eq (F := F) t91 r901 r911 t101 l101 t111 l111 hi9 (i := L2.length) (by omega) (by omega)
            rw [hW1.2.1] at ek
            simp only at ek
            have hq3 : (nI k = 3) ↔ k = 3 := nI_k (k := 3) (by omega) (by decide)
            by_cases c3 : k = 3
            · rw [if_pos c3]
              subst c3
              simp only [nAr] at i4
              have ho3 : isOp 3 = false := rfl
              simp only [ho3, Bool.false_eq_true, if_false] at i4
              obtain ⟨s2, x2, o2, T2⟩ := rd_rem (F := F) T1 (by omega)
              obtain ⟨s3, x3, o3, p1, p2, p3, p4, p5, p6, p7⟩ := rd_put T2 5 (Or.inr (Or.inl rfl)) (nI a1 - 1)
              have har : nI a1 - 1 = nI (a1 - 1) := by
                obtain ⟨j, hj⟩ : ∃ j, a1 = j + 1 := ⟨a1 - 1, by omega⟩
                rw [hj, nI_pred]; rfl
              have T3 : TR s3 z rd yy (E1, 5, a1 - 1, rel, nw, L2) := ⟨p1, p2, ((T2.2.2.1.put p4).2.1 rfl _ har), p3⟩
              obtain ⟨s4, x4, o4, T4⟩ := settle_eq (F := F) (rk := 3) (by decide) (by decide) T3 i3.1 (by omega) (by omega) (by omega) hF
              have t82 : xT s2 rd = 10 := T2.1.2.1.1
              have t83 : xT s3 rd = 10 := p1.2.1.1
              have i25 : xI s2 rd 5 = nI a1 := T2.2.2.1.2.1
              have x4' : X_TextReader_settle F s3 rd 3 = some s4 := x4
              rw [nIk3] at ek
              refine TkR.yes (s2 := s4) ?_ (((o1.trans o2).trans o3).trans o4) T4
              simp [X_TextReader_takeBehindAtom, xIs, t8, eo, xGetI, ia, c0', xGetA, r81, tw, i12, c1, X_TextReader_closeBracket, x1, t81, r831, t91, hi9, nI_pred, ek, x2, t82, i25, x3, t83, x4', xpT, xpL, xpI, xpR, xpA, xpJ, xpO, xpZ, xInt, xN]
            · rw [if_neg c3]
              have c3' : ¬ nI k = 3 := fun q => c3 (hq3.mp q)
              refine TkR.no (s2 := s1) ?_ o1
              simp [X_TextReader_takeBehindAtom, xIs, t8, eo, xGetI, ia, c0', xGetA, r81, tw, i12, c1, X_TextReader_closeBracket, x1, t81, r831, t91, hi9, nI_pred, ek, c3', xpT, xpL, xpI, xpR, xpA, xpJ, xpO, xpZ, xInt, xN]
        · rw [if_neg c1]
          refine TkR.no (s2 := s) ?_ (Ow.refl z rd yy s)
          simp [X_TextReader_takeBehindAtom, xIs, t8, eo, xGetI, ia, c0', xGetA, r81, tw, i12, c1, xpT, xpL, xpI, xpR, xpA, xpJ, xpO, xpZ, xInt, xN]
      · rw [if_neg c0]
        have c0' : nI ar ≤ 0 := by rw [show ar = 0 by omega]; decide
        have ir : xI s1 rd 6 = if rel = 0 then -1 else nI rel := h31.2.2.1
        have pre : X_TextReader_takeBehindAtom F s rd (nI i) = (if (if rel = 0 then (-1 : Int32) else nI rel) = -1 then ((X_TextReader_relationAt F s1 rd (nI i)).bind fun q37 => (xPutI q37.2 rd 9 6 q37.1).bind fun y39 => (xPutI y39 rd 9 4 2).bind fun y41 => (xGetI y41 rd 9 6).bind fun v43 => if v43 = (-1) then some (0, y41) else some (1, y41)) else ((X_Steps_add F s1 (z + 6) (if rel = 0 then -1 else nI rel) (-1)).bind fun q15 => (xPutI q15 rd 9 6 (-1)).bind fun y17 => (xGetA y17 rd 9 2).bind fun v19 => (xIs y17 v19 10).bind fun u20 => (X_Words_is F y17 v19 (nI i) 17).bind fun q21 => if q21.1 = 0 then ((xGetI q21.2 rd 9 7).bind fun v24 => if v24 = 0 then ((xIs q21.2 rd 9).bind fun u26 => (X_TextReader_takeRuleEnd F q21.2 rd (nI i)).bind fun q27 => (hZ q27.1).bind fun u29 => some (q27.1, q27.2)) else ((xIs q21.2 rd 9).bind fun u30 => (X_TextReader_takeNeed F q21.2 rd (nI i)).bind fun q31 => (hZ q31.1).bind fun u33 => some (q31.1, q31.2))) else ((xPutI q21.2 rd 9 4 2).bind fun y34 => some (1, y34)))) := by
          have et61 : xT s1 (z + 6) = 8 := e11.t 6
          simp [X_TextReader_takeBehindAtom, xIs, t8, eo, xGetI, ia, c0', x1, t81, ir, xGetA, r821, et61, xpT, xpL, xpI, xpR, xpA, xpJ, xpO, xpZ, xInt, xN]
        rw [pre]
        unfold tbS
        by_cases crel : rel = 0
        · subst crel
          have er := relationAt_eq (F := F) hs1 (hk s1 o1)
          rw [if_pos rfl, if_pos rfl, if_pos rfl, er]
          by_cases ct : rlk t = 0
          · rw [if_pos ct, if_pos ct]
            obtain ⟨s2, x2, o2, p1, p2, p3, p4, p5, p6, p7⟩ := rd_put T1 6 (Or.inr (Or.inr (Or.inl rfl))) (-1)
            have T2 : TR s2 z rd yy (E1, 5, a1, 0, nw, L1) := ⟨p1, p2, ((h31.put p4).2.2.1 rfl 0 rfl), p3⟩
            obtain ⟨s3, x3, o3, q1, q2, q3, q4, q5, q6, q7⟩ := rd_put T2 4 (Or.inl rfl) 2
            have t83 : xT s3 rd = 10 := q1.2.1.1
            have i36 : xI s3 rd 6 = -1 := by rw [q4]; simp; rw [p4]; simp
            refine TkR.no (s2 := s3) ?_ ((o1.trans o2).trans o3)
            simp [x2, x3, xGetI, t83, i36, xpT, xpL, xpI, xpR, xpA, xpJ, xpO, xpZ, xInt, xN]
          · rw [if_neg ct, if_neg ct]
            have hrk := (rlk_rng t).resolve_left ct
            obtain ⟨s2, x2, o2, p1, p2, p3, p4, p5, p6, p7⟩ := rd_put T1 6 (Or.inr (Or.inr (Or.inl rfl))) (nI (rlk t))
            have T2 : TR s2 z rd yy (E1, 5, a1, rlk t, nw, L1) := ⟨p1, p2, ((h31.put p4).2.2.1 rfl (rlk t) (by simp [ct])), p3⟩
            obtain ⟨s3, x3, o3, q1, q2, q3, q4, q5, q6, q7⟩ := rd_put T2 4 (Or.inl rfl) 2
            have t83 : xT s3 rd = 10 := q1.2.1.1
            have i36 : xI s3 rd 6 = nI (rlk t) := by rw [q4]; simp; rw [p4]; simp
            have hm : ¬ nI (rlk t) = -1 := nI_ne_m1 (by omega)
            refine TkR.yes (s2 := s3) ?_ ((o1.trans o2).trans o3) ⟨q1, q2, ((T2.2.2.1.put q4).1 rfl 2 rfl), q3⟩
            simp [x2, x3, xGetI, t83, i36, hm, xpT, xpL, xpI, xpR, xpA, xpJ, xpO, xpZ, xInt, xN]
        · rw [if_neg crel]
          have hrr := hrel.resolve_left crel
          have hm : ¬ nI rel = -1 := nI_ne_m1 (by omega)
          simp only [crel, if_false, hm]
          have hlen : E1.1 2 < 400 := by
            simp only [crel, if_false] at hb
            omega
          obtain ⟨s2, x2, o2, T2⟩ := rd_step (F := F) T1 hlen rel 0 (nI rel) (-1) rfl (by
            have : ¬ rel ≤ 2 := by omega
            simp [this])
          obtain ⟨s3, x3, o3, p1, p2, p3, p4, p5, p6, p7⟩ := rd_put T2 6 (Or.inr (Or.inr (Or.inl rfl))) (-1)
          have T3 : TR s3 z rd yy (emt E1 rel 0, 5, a1, 0, nw, L1) := ⟨p1, p2, ((T2.2.2.1.put p4).2.2.1 rfl 0 rfl), p3⟩
          have o123 := (o1.trans o2).trans o3
          obtain ⟨e13, ⟨t83, r803, r813, r823, r833⟩, -⟩ := id p1
          have tw3 : xT s3 (z + 1) = 11 := e13.t 1
          have et03 : xT s3 z = 2 := e13.t 0
          have hk3 := hk s3 o123
          have j17 := hk3.1 17 (by decide)
          have j18 := hk3.1 18 (by decide)
          have j3 := hk3.1 3 (by decide)
          simp only [cd] at j17 j18 j3
          have i37 : xI s3 rd 7 = nI nw := T3.2.2.1.2.2.2
          have s4e : (emt E1 rel 0).1 4 = E.1 4 := ((emt_ext E1 rel 0).1 4 (by decide)).trans e4
          by_cases ct : t = -5
          · rw [if_pos ct]
            obtain ⟨s4, x4, o4, q1, q2, q3, q4, q5, q6, q7⟩ := rd_put T3 4 (Or.inl rfl) 2
            refine TkR.yes (s2 := s4) ?_ (o123.trans o4) ⟨q1, q2, ((T3.2.2.1.put q4).1 rfl 2 rfl), q3⟩
            simp [x2, x3, xGetA, t83, r813, xIs, tw3, j17, ct, x4, xpT, xpL, xpI, xpR, xpA, xpJ, xpO, xpZ, xInt, xN]
          · rw [if_neg ct]
            by_cases cn : nw = 1
            · rw [if_pos cn]
              subst cn
              rw [nIk1] at i37
              by_cases ct2 : t = -4
              · rw [if_pos ct2]
                obtain ⟨s4, x4, o4, T4⟩ := beginNeed_eq (F := F) T3 (by rw [s4e]; exact hF1.2.2.1) (by rw [s4e]; exact hR.1)
                obtain ⟨s5, x5, o5, q1, q2, q3, q4, q5, q6, q7⟩ := rd_put T4 7 (Or.inr (Or.inr (Or.inr rfl))) 0
                have T5 : TR s5 z rd yy (bgN (emt E1 rel 0), 5, a1, 0, 0, L1) := ⟨q1, q2, ((T4.2.2.1.put q4).2.2.2 rfl 0 rfl), q3⟩
                obtain ⟨s6, x6, o6, u1, u2, u3, u4, u5, u6, u7⟩ := rd_put T5 4 (Or.inl rfl) 2
                refine TkR.yes (s2 := s6) ?_ (((o123.trans o4).trans o5).trans o6) ⟨u1, u2, ((T5.2.2.1.put u4).1 rfl 2 rfl), u3⟩
                simp [x2, x3, xGetA, t83, r813, xIs, tw3, j17, ct2, xGetI, i37, X_TextReader_takeNeed, j18, r803, et03, x4, x5, x6, hZ, xpT, xpL, xpI, xpR, xpA, xpJ, xpO, xpZ, xInt, xN]
              · rw [if_neg ct2]
                refine TkR.no (s2 := s3) ?_ o123
                simp [x2, x3, xGetA, t83, r813, xIs, tw3, j17, ct, xGetI, i37, X_TextReader_takeNeed, j18, ct2, hZ, xpT, xpL, xpI, xpR, xpA, xpJ, xpO, xpZ, xInt, xN]
            · rw [if_neg cn]
              have cn0 : nw = 0 := by omega
              subst cn0
              rw [nIk0] at i37
              by_cases ct2 : t = -19
              · rw [if_pos ct2]
                obtain ⟨s4, x4, o4, T4⟩ := endRule_eq (F := F) T3 (by rw [s4e]; exact hF1.2.2.1) (by rw [s4e]; exact hR.1) i
                obtain ⟨s5, x5, o5, q1, q2, q3, q4, q5, q6, q7⟩ := rd_put T4 4 (Or.inl rfl) 0
                refine TkR.yes (s2 := s5) ?_ ((o123.trans o4).trans o5) ⟨q1, q2, ((T4.2.2.1.put q4).1 rfl 0 rfl), q3⟩
                simp [x2, x3, xGetA, t83, r813, xIs, tw3, j17, ct2, xGetI, i37, X_TextReader_takeRuleEnd, j3, r803, et03, x4, x5, hZ, xpT, xpL, xpI, xpR, xpA, xpJ, xpO, xpZ, xInt, xN]
              · rw [if_neg ct2]
                refine TkR.no (s2 := s3) ?_ o123
                simp [x2, x3, xGetA, t83, r813, xIs, tw3, j17, ct, xGetI, i37, X_TextReader_takeRuleEnd, j3, ct2, hZ, xpT, xpL, xpI, xpR, xpA, xpJ, xpO, xpZ, xInt, xN]
    · rw [if_pos (by omega)]
      have ho0 : ¬ opk t = 0 := by omega
      rw [if_neg ho0] at eo
      have hm : ¬ nI (opk t) = -1 := nI_ne_m1 (by omega)
      have hrr := rnk_op ho
      have hro := rankOf_eq (F := F) (s := s) (k := opk t) (by omega)
      obtain ⟨s1, x1, o1, T1⟩ := settle_eq (F := F) (rk := rnkK (opk t)) hrr.1 (by omega) h hL ha ha13 (by omega) hF
      obtain ⟨i1, i2, i3, i4, i5, i6, i7, i8⟩ := st (rnkK (opk t)) hrr.1
      have hr0 : (if rel = 0 then 0 else 1) ≤ 1 := hr1
      obtain ⟨s2, x2, o2, T2⟩ := rd_push (F := F) T1 (by omega) (opk t) 0 (nI (opk t)) (-1) rfl (by
        have : ¬ opk t = 2 := by omega
        simp [this])
      obtain ⟨s3, x3, o3, p1, p2, p3, p4, p5, p6, p7⟩ := rd_put T2 4 (Or.inl rfl) 2
      obtain ⟨⟨-, ⟨t81, -, -, -, r831⟩, ⟨t91, -⟩, -⟩, -⟩ := id T1
      refine TkR.yes (s2 := s3) ?_ ((o1.trans o2).trans o3) ⟨p1, p2, ((T2.2.2.1.put p4).1 rfl 2 rfl), p3⟩
      simp [X_TextReader_takeBehindAtom, xIs, t8, eo, hm, hro, x1, xGetA, t81, r831, t91, x2, x3, xpT, xpL, xpI, xpR, xpA, xpJ, xpO, xpZ, xInt, xN]
theorem take_eq {S : SA} (h : TR s z rd yy S) (hw : WFS S i) (hi : i < 400) (hF : 400 < F) (ht : 0 ≤ t → ∃ v : Nat, v < 1000000000 ∧ t = nI v) (hk : ∀ s2, Ow z rd yy s s2 → Tk F s2 (z + 1) i t) : TkR s z rd yy (X_TextReader_take F s rd (nI i)) (ta S i t) := by
  obtain ⟨E, aw, ar, rel, nw, L⟩ := S
  obtain ⟨hs, h2, h3, hW⟩ := id h
  simp only at hs h3
  have lay := hs.2.2.2.2.2.2
  obtain ⟨e1, ⟨t8, r80, r81, r82, r83⟩, -⟩ := id hs
  have ia : xI s rd 4 = nI aw := h3.1
  have fin : ∀ (X : Option (Int32 × XS)) (Y : Option SA), TkR s z rd yy X Y → X_TextReader_take F s rd (nI i) = (X.bind fun q => (hZ q.1).bind fun _ => some (q.1, q.2)) → TkR s z rd yy (X_TextReader_take F s rd (nI i)) Y := by
    intro X Y hX e
    obtain ⟨v, s2, x1, o1, u1, u2⟩ := hX
    refine ⟨v, s2, ?_, o1, u1, u2⟩
    rw [e, x1]
    have hv : v = 0 ∨ v = 1 := by
      cases hY : Y with
      | none => exact Or.inl (u1 hY)
      | some S2 => exact Or.inr (u2 S2 hY).1
    rcases hv with rfl | rfl <;> simp [hZ]
  have haw : aw = 0 ∨ aw = 1 ∨ aw = 2 ∨ aw = 3 ∨ aw = 4 ∨ aw = 5 := by
    rcases hw.2 with q | q
    · have := q.1; simp only at this; omega
    · have h1 := q.1; have h2 := q.2.1; simp only at h1 h2; omega
  rcases haw with c | c | c | c | c | c <;> subst c
  · exact fin _ _ (take_item h hw hi hk) (by rw [nIk0] at ia; simp [X_TextReader_take, xGetI, t8, ia, xIs, xpT, xpL, xpI, xpR, xpA, xpJ, xpO, xpZ, xInt, xN])
  · exact fin _ _ (take_num h hw ht hk) (by rw [nIk1] at ia; simp [X_TextReader_take, xGetI, t8, ia, xIs, xpT, xpL, xpI, xpR, xpA, xpJ, xpO, xpZ, xInt, xN])
  · exact fin _ _ (take_atom h hw hi hF ht hk) (by rw [nIk2] at ia; simp [X_TextReader_take, xGetI, t8, ia, xIs, xpT, xpL, xpI, xpR, xpA, xpJ, xpO, xpZ, xInt, xN])
  · exact fin _ _ (take_fact h hw hi hF hk) (by rw [nIk3] at ia; simp [X_TextReader_take, xGetI, t8, ia, xIs, xpT, xpL, xpI, xpR, xpA, xpJ, xpO, xpZ, xInt, xN])
  · exact fin _ _ (take_place h hw hi hk) (by rw [nIk4] at ia; simp [X_TextReader_take, xGetI, t8, ia, xIs, xpT, xpL, xpI, xpR, xpA, xpJ, xpO, xpZ, xInt, xN])
  · exact fin _ _ (take_behind h hw hi hF hk) (by rw [nIk5] at ia; simp [X_TextReader_take, xGetI, t8, ia, xIs, xpT, xpL, xpI, xpR, xpA, xpJ, xpO, xpZ, xInt, xN])
/-- the tokens of a tape -/
def tok (g : Nat → Int32) (n i : Nat) : Int32 := tk g (wb g n i) (we g n i)
/-- all words -/
theorem firstWrong_loop (hF : 400 < F) (hl : z + 13 ≤ yy ∧ rd + 4 ≤ yy ∧ (rd + 4 ≤ z ∨ z + 13 ≤ rd)) : ∀ (d i y : Nat) (s : XS) (S : SA), i + d = wc (xA s (z + 3)) nt → d < y → TR s z rd yy S → WFS S i → WoAt s (z + 1) (z + 2) (z + 3) (z + 4) (z + 5) nt → nrm (xA s (z + 3)) nt →
    ∃ s2, X_TextReader_firstWrong_7 F y s rd (nI i) = some (match run (tok (xA s (z + 3)) nt) d i S with | .inl j => nI j | .inr _ => -1, s2) ∧ Ow z rd yy s s2 ∧ ∀ S2, run (tok (xA s (z + 3)) nt) d i S = .inr S2 → TR s2 z rd yy S2 ∧ WFS S2 (wc (xA s (z + 3)) nt) ∧ S2.2.1 = 0 := by
  intro d
  induction d with
  | zero =>
    intro i y s S hi hy T hw W0 hN
    obtain ⟨y, rfl⟩ : ∃ x, y = x + 1 := ⟨y - 1, by omega⟩
    obtain ⟨⟨e1, ⟨t8, r80, r81, r82, r83⟩, -⟩, -, h3, -⟩ := id T
    have tw : xT s (z + 1) = 11 := e1.t 1
    have hc : xI s (z + 1) 3 = nI (wc (xA s (z + 3)) nt) := W0.2.2.2.1
    have hle := wc_le (xA s (z + 3)) nt
    have h8 := W0.2.2.1
    have hwc : wc (xA s (z + 3)) nt ≤ 400 := by
      cases h : inW (xA s (z + 3)) nt with
      | true => have := hle.1 h; omega
      | false => have := hle.2 h; omega
    have b1 : nI (wc (xA s (z + 3)) nt) ≤ nI i := nI_le (by omega) (by omega)
    have ia : xI s rd 4 = nI S.2.1 := h3.1
    have haw : S.2.1 ≤ 5 := by rcases hw.2 with q | q; have := q.1; omega; exact q.2.1
    refine ⟨s, ?_, Ow.refl z rd yy s, ?_⟩
    · simp only [run]
      by_cases c : S.2.1 = 0
      · rw [c, nIk0] at ia
        simp [X_TextReader_firstWrong_7, BX_TextReader_firstWrong_7, xGetA, t8, r81, xGetI, tw, hc, b1, ia, c, xpT, xpL, xpI, xpR, xpA, xpJ, xpO, xpZ, xInt, xN]
      · have c' : ¬ nI S.2.1 = 0 := nI_ne0 (by omega) (by omega)
        have ei : i = wc (xA s (z + 3)) nt := by omega
        simp [X_TextReader_firstWrong_7, BX_TextReader_firstWrong_7, xGetA, t8, r81, xGetI, tw, hc, b1, ia, c, c', xpT, xpL, xpI, xpR, xpA, xpJ, xpO, xpZ, xInt, xN, ei]
    · intro S2 hS2
      simp only [run] at hS2
      by_cases c : S.2.1 = 0
      · rw [if_pos c] at hS2
        cases hS2
        exact ⟨T, by rw [← hi]; exact hw, c⟩
      · rw [if_neg c] at hS2; cases hS2
  | succ d ih =>
    intro i y s S hi hy T hw W0 hN
    obtain ⟨y, rfl⟩ : ∃ x, y = x + 1 := ⟨y - 1, by omega⟩
    obtain ⟨⟨e1, ⟨t8, r80, r81, r82, r83⟩, -⟩, -, h3, -⟩ := id T
    have tw : xT s (z + 1) = 11 := e1.t 1
    have hc : xI s (z + 1) 3 = nI (wc (xA s (z + 3)) nt) := W0.2.2.2.1
    have hle := wc_le (xA s (z + 3)) nt
    have h8 := W0.2.2.1
    have hwc : wc (xA s (z + 3)) nt ≤ 400 := by
      cases h : inW (xA s (z + 3)) nt with
      | true => have := hle.1 h; omega
      | false => have := hle.2 h; omega
    have b1 : ¬ nI (wc (xA s (z + 3)) nt) ≤ nI i := nI_ge (by omega) (by omega)
    have htk := (tk_num (xA s (z + 3)) (wb (xA s (z + 3)) nt i) (we (xA s (z + 3)) nt i)).2
    obtain ⟨v, s1, x1, o1, u1, u2⟩ := take_eq (F := F) (t := tok (xA s (z + 3)) nt i) T hw (by omega) hF (fun q => by
      obtain ⟨v, hv, -, e⟩ := htk q
      exact ⟨v, hv, e⟩) (fun s2 o2 => by
      have W2 := W0.ow hl o2
      have er : xA s2 (z + 3) = xA s (z + 3) := ((o2.2 (z + 3) (by omega)).2 (by omega)).2
      refine ⟨fun k hk => ?_, ?_⟩
      · have := X_is_eq (F := F) W2 (by rw [er]; exact hN) (i := i) (k := k) (by rw [er]; omega) hk (by omega)
        rw [er] at this
        exact this
      · have := X_num_eq (F := F) W2 (by rw [er]; exact hN) (i := i) (by rw [er]; omega) (by omega)
        rw [er] at this
        exact this)
    have er : xA s1 (z + 3) = xA s (z + 3) := ((o1.2 (z + 3) (by omega)).2 (by omega)).2
    simp only [run]
    cases ht : ta S i (tok (xA s (z + 3)) nt i) with
    | none =>
      have v0 := u1 ht
      refine ⟨s1, ?_, o1, fun S2 hS2 => by cases hS2⟩
      simp [X_TextReader_firstWrong_7, BX_TextReader_firstWrong_7, xGetA, t8, r81, xGetI, tw, hc, b1, xIs, x1, v0, xpT, xpL, xpI, xpR, xpA, xpJ, xpO, xpZ, xInt, xN]
    | some S1 =>
      obtain ⟨v1, T1⟩ := u2 S1 ht
      have hw1 := ta_wf (fun q => by
        obtain ⟨v, hv, -, e⟩ := htk q
        have : (tok (xA s (z + 3)) nt i).toNatClampNeg = v := by unfold tok; rw [e]; exact nI_clamp (by omega)
        rw [this]; exact hv) hw ht
      obtain ⟨s2, x2, o2, w2⟩ := ih (i + 1) y s1 S1 (by rw [er]; omega) (by omega) T1 hw1 (W0.ow hl o1) (by rw [er]; exact hN)
      rw [er] at x2 w2
      refine ⟨s2, ?_, o1.trans o2, w2⟩
      rw [← x2]
      simp [X_TextReader_firstWrong_7, BX_TextReader_firstWrong_7, xGetA, t8, r81, xGetI, tw, hc, b1, xIs, x1, v1, nI_1, xpT, xpL, xpI, xpR, xpA, xpJ, xpO, xpZ, xInt, xN]
end BEHIND
