section SETTLE
variable {F : Nat} {z rd yy : Nat} {aw rel nw : Nat}
theorem rankOf_eq {s : XS} {k : Nat} (hk : k ≤ 8) : X_TextReader_rankOf F s (nI k) = some (nI (rnkK k), s) := by
  have : k = 0 ∨ k = 1 ∨ k = 2 ∨ k = 3 ∨ k = 4 ∨ k = 5 ∨ k = 6 ∨ k = 7 ∨ k = 8 := by omega
  rcases this with h | h | h | h | h | h | h | h | h <;> subst h <;> rfl
theorem wa_k {tc : Nat} {x : Nat × Nat} {L : List (Nat × Nat)} (h : wa tc (x :: L)) : 2 ≤ x.1 ∧ x.1 ≤ 8 := by
  rcases h.2 with ⟨q, -⟩ | ⟨q, -⟩ | ⟨q, -⟩ | ⟨q, -⟩ <;> omega
theorem settle_loop {tc rk : Nat} (hr : 1 ≤ rk) (hr3 : rk ≤ 3) : ∀ (L : List (Nat × Nat)) (E : Ed) (ar y : Nat) (s : XS), TR s z rd yy (E, aw, ar, rel, nw, L) → wa tc L → ar = nAr L → ar ≤ 13 → E.1 2 + L.length ≤ 400 → L.length < y →
    ∃ s2, X_TextReader_settle_10 F y s rd (nI rk) (nI L.length + (-1)) = some s2 ∧ Ow z rd yy s s2 ∧ TR s2 z rd yy ((stl rk L E ar).2.1, aw, (stl rk L E ar).2.2, rel, nw, (stl rk L E ar).1) := by
  intro L
  induction L with
  | nil =>
    intro E ar y s h _ _ _ _ hy
    obtain ⟨y, rfl⟩ : ∃ x, y = x + 1 := ⟨y - 1, by omega⟩
    have e0 : nI ([] : List (Nat × Nat)).length + (-1) < 0 := by decide
    refine ⟨s, ?_, Ow.refl z rd yy s, h⟩
    show BX_TextReader_settle_10 F _ s rd (nI rk) (nI ([] : List (Nat × Nat)).length + (-1)) = _
    unfold BX_TextReader_settle_10
    rw [if_pos e0]
  | cons x L ih =>
    intro E ar y s h hw ha ha13 hb hy
    obtain ⟨y, rfl⟩ : ∃ x, y = x + 1 := ⟨y - 1, by omega⟩
    simp only [List.length_cons] at hb hy ⊢
    rw [nI_m1]
    obtain ⟨k, v⟩ := x
    obtain ⟨k2, k8⟩ := wa_k hw
    simp only at k2 k8
    obtain ⟨h1, h2, h3, hW⟩ := id h
    simp only at h1 h2 h3 hW
    have lay := h1.2.2.2.2.2.2
    obtain ⟨e1, ⟨t8, r80, r81, r82, r83⟩, ⟨et6, er0, er1⟩, ⟨et7, el7⟩, ⟨et8, el8⟩, -⟩ := id h1
    obtain ⟨ek, ev⟩ := X_kindAt_eq (F := F) et6 er0 er1 et7 el7 et8 el8 hW.1 (i := L.length) (by simp) (by simp; omega)
    rw [hW.2.1] at ek
    rw [hW.2.2.1] at ev
    simp only at ek ev
    have b0 : ¬ nI L.length < 0 := nI_pos (by omega)
    have hro := rankOf_eq (F := F) (s := s) (k := k) (by omega)
    have hrk8 : rnkK k ≤ 3 := by
      unfold rnkK
      repeat' split
      all_goals omega
    simp only [stl]
    by_cases c : rnkK k < rk
    · have c2 : ¬ nI rk ≤ nI (rnkK k) := nI_ge c (by omega)
      refine ⟨s, ?_, Ow.refl z rd yy s, by simp only [c, if_true]; exact h⟩
      simp [X_TextReader_settle_10, BX_TextReader_settle_10, b0, xGetA, t8, r83, xIs, et6, ek, hro, c2, xpT, xpL, xpI, xpR, xpA, xpJ, xpO, xpZ, xInt, xN]
    · have c2 : nI rk ≤ nI (rnkK k) := nI_le (by omega) (by omega)
      have hk3 : k ≠ 3 := fun q => c (by rw [q]; simp [rnkK]; omega)
      have et1 : xT s (z + 6) = 8 := e1.t 6
      obtain ⟨s1, x1, o1, T1⟩ := rd_step (F := F) h (by omega) k v (nI k) (if k = 2 then nI v else -1) rfl (by
        by_cases c : k = 2
        · simp [c]
        · have : ¬ k ≤ 2 := by omega
          simp [c, this])
      obtain ⟨s2, x2, o2, T2⟩ := rd_rem (F := F) T1 (by omega)
      obtain ⟨g1, g2, g3, gW⟩ := id T2
      simp only at g1 g3
      obtain ⟨-, ⟨t82, -⟩, -⟩ := id g1
      obtain ⟨⟨-, ⟨t81, -, -, -, r831⟩, ⟨et61, -⟩, -⟩, -⟩ := id T1
      simp only [c, if_false]
      have pre : X_TextReader_settle_10 F (y + 1) s rd (nI rk) (nI L.length) = if nI k = 2 then ((xGetI s2 rd 9 5).bind fun v22 => (xPutI s2 rd 9 5 (v22 - 1)).bind fun y23 => X_TextReader_settle_10 F y y23 rd (nI rk) (nI L.length + (-1))) else X_TextReader_settle_10 F y s2 rd (nI rk) (nI L.length + (-1)) := by
        simp [X_TextReader_settle_10, BX_TextReader_settle_10, b0, xGetA, t8, r82, r83, xIs, et6, ek, hro, c2, ev, et1, x1, t81, r831, et61, x2, X_TextReader_settle_70, xpT, xpL, xpI, xpR, xpA, xpJ, xpO, xpZ, xInt, xN]
      rw [pre]
      have hq2 : (nI k = 2) ↔ k = 2 := nI_k (k := 2) (by omega) (by decide)
      have s3e : (emt E k v).1 3 = E.1 3 := (emt_ext E k v).1 3 (by decide)
      by_cases cp : k = 2
      · rw [if_pos (hq2.mpr cp)]
        have ho : isOp k = false := by rw [cp]; rfl
        simp only [nAr, ho, Bool.false_eq_true, if_false] at ha
        obtain ⟨s3, x3, o3, p1, p2, p3, p4, p5, p6, p7⟩ := rd_put T2 5 (Or.inr (Or.inl rfl)) (nI ar - 1)
        have har : nI ar - 1 = nI (ar - 1) := by
          obtain ⟨j, hj⟩ : ∃ j, ar = j + 1 := ⟨ar - 1, by omega⟩
          rw [hj, nI_pred]; rfl
        have T3 : TR s3 z rd yy (emt E k v, aw, ar - 1, rel, nw, L) := ⟨p1, p2, ((g3.put p4).2.1 rfl _ har), p3⟩
        obtain ⟨s4, x4, o4, T4⟩ := ih (emt E k v) (ar - 1) y s3 T3 hw.1 (by omega) (by omega) (by rw [emt_2]; omega) (by omega)
        refine ⟨s4, ?_, ((o1.trans o2).trans o3).trans o4, by simp only [cp, if_true]; rw [cp] at T4; exact T4⟩
        have hi5 : xI s2 rd 5 = nI ar := g3.2.1
        simp [xGetI, t82, hi5, x3, x4, xpT, xpL, xpI, xpR, xpA, xpJ, xpO, xpZ, xInt, xN]
      · rw [if_neg (fun q => cp (hq2.mp q))]
        have ho : isOp k = true := by simp [isOp]; omega
        simp only [nAr, ho, if_true, Nat.add_zero] at ha
        obtain ⟨s4, x4, o4, T4⟩ := ih (emt E k v) ar y s2 T2 hw.1 ha ha13 (by rw [emt_2]; omega) (by omega)
        refine ⟨s4, x4, (o1.trans o2).trans o4, by simp only [cp, if_false]; exact T4⟩
theorem settle_eq {tc rk : Nat} (hr : 1 ≤ rk) (hr3 : rk ≤ 3) {L : List (Nat × Nat)} {E : Ed} {ar : Nat} {s : XS} (h : TR s z rd yy (E, aw, ar, rel, nw, L)) (hw : wa tc L) (ha : ar = nAr L) (ha13 : ar ≤ 13) (hb : E.1 2 + L.length ≤ 400) (hF : 400 < F) :
    ∃ s2, X_TextReader_settle F s rd (nI rk) = some s2 ∧ Ow z rd yy s s2 ∧ TR s2 z rd yy ((stl rk L E ar).2.1, aw, (stl rk L E ar).2.2, rel, nw, (stl rk L E ar).1) := by
  obtain ⟨s2, x, o, T⟩ := settle_loop (F := F) hr hr3 L E ar F s h hw ha ha13 hb (by omega)
  refine ⟨s2, ?_, o, T⟩
  obtain ⟨⟨-, ⟨t8, r80, r81, r82, r83⟩, ⟨et6, er0, er1⟩, -⟩, -, -, hW⟩ := id h
  have hi : xI s (rd + 1) 2 = nI L.length := hW.1
  have : nI L.length - 1 = nI L.length + (-1) := Int32.sub_eq_add_neg _ _
  simp [X_TextReader_settle, xGetA, t8, r83, xGetI, et6, hi, this, x, xpT, xpL, xpI, xpR, xpA, xpJ, xpO, xpZ, xInt, xN]
theorem endAtom_eq {tc : Nat} {L : List (Nat × Nat)} {E : Ed} {ar : Nat} {s : XS} (h : TR s z rd yy (E, aw, ar, rel, nw, L)) (hw : wa tc L) (ha : ar = nAr L) (ha13 : ar ≤ 13) (hb : E.1 2 + L.length ≤ 400) (hF : 400 < F) : ∃ s2, X_TextReader_endAtom F s rd = some s2 ∧ Ow z rd yy s s2 ∧ TR s2 z rd yy (enA E ar rel nw L) := by
  obtain ⟨s2, x, o, T⟩ := settle_eq (F := F) (rk := 3) (by decide) (by decide) h hw ha ha13 hb hF
  obtain ⟨s3, x3, o3, p1, p2, p3, p4, p5, p6, p7⟩ := rd_put T 4 (Or.inl rfl) 5
  obtain ⟨⟨-, ⟨t8, -⟩, -⟩, -⟩ := id h
  refine ⟨s3, ?_, o.trans o3, p1, p2, ((T.2.2.1.put p4).1 rfl 5 rfl), p3⟩
  have x' : X_TextReader_settle F s rd 3 = some s2 := x
  simp [X_TextReader_endAtom, xIs, t8, x', x3]
theorem waitAround_eq {L : List (Nat × Nat)} {E : Ed} {ar k v : Nat} {s : XS} {x y : Int32} (h : TR s z rd yy (E, aw, ar, rel, nw, L)) (h4 : L.length < 400) (hx : x = nI k) (hy : y = if k = 2 then nI v else -1) : ∃ s2, X_TextReader_waitAround F s rd x y = some s2 ∧ Ow z rd yy s s2 ∧ TR s2 z rd yy (E, 2, ar + 1, rel, nw, (k, v) :: L) := by
  obtain ⟨⟨-, ⟨t8, r80, r81, r82, r83⟩, ⟨et6, er0, er1⟩, -⟩, -⟩ := id h
  obtain ⟨s1, x1, o1, T1⟩ := rd_push (F := F) h h4 k v x y hx hy
  obtain ⟨⟨-, ⟨t81, -⟩, -⟩, -, g3, -⟩ := id T1
  obtain ⟨s2, x2, o2, p1, p2, p3, p4, p5, p6, p7⟩ := rd_put T1 5 (Or.inr (Or.inl rfl)) (nI ar + 1)
  have T2 : TR s2 z rd yy (E, aw, ar + 1, rel, nw, (k, v) :: L) := ⟨p1, p2, ((g3.put p4).2.1 rfl (ar + 1) (nI_1 ar)), p3⟩
  obtain ⟨s3, x3, o3, u1, u2, u3, u4, u5, u6, u7⟩ := rd_put T2 4 (Or.inl rfl) 2
  refine ⟨s3, ?_, (o1.trans o2).trans o3, u1, u2, ((T2.2.2.1.put u4).1 rfl 2 rfl), u3⟩
  have hi5 : xI s1 rd 5 = nI ar := g3.2.1
  simp [X_TextReader_waitAround, xGetA, t8, r83, xIs, et6, x1, xGetI, t81, hi5, x2, x3, xpT, xpL, xpI, xpR, xpA, xpJ, xpO, xpZ, xInt, xN]
end SETTLE
