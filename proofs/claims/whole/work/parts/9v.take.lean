/-! A WORD IS TAKEN -/
section TAKE
variable {F : Nat} {z rd yy nt : Nat} {aw ar rel nw : Nat} {L : List (Nat × Nat)} {E : Ed} {s : XS} {i : Nat} {t : Int32}
theorem WoAt.old {s2 : XS} {w b r p q : Nat} (h : WoAt s w b r p q nt) (hl : w < z ∧ b < z ∧ r < z ∧ p < z ∧ q < z) (o : Old z s s2) : WoAt s2 w b r p q nt := by
  obtain ⟨l1, l2, l3, l4, l5⟩ := hl
  obtain ⟨a1, a2, a3, a4, a5, -, -⟩ := o w l1
  obtain ⟨b1, b2, b3, b4, b5, -, -⟩ := o b l2
  obtain ⟨c1, c2, c3, c4, c5, -, -⟩ := o r l3
  obtain ⟨d1, d2, d3, d4, d5, -, -⟩ := o p l4
  obtain ⟨e1, e2, e3, e4, e5, -, -⟩ := o q l5
  unfold WoAt WoSh at h ⊢
  rw [a1, a3, a4, b1, b3, b4, c1, c2, c5, d1, d2, d5, e1, e2, e5]
  exact h
theorem WoAt.ow {s2 : XS} (h : WoAt s (z + 1) (z + 2) (z + 3) (z + 4) (z + 5) nt) (hl : z + 13 ≤ yy ∧ rd + 4 ≤ yy ∧ (rd + 4 ≤ z ∨ z + 13 ≤ rd)) (o : Ow z rd yy s s2) : WoAt s2 (z + 1) (z + 2) (z + 3) (z + 4) (z + 5) nt := by
  have k : ∀ j, 1 ≤ j → j ≤ 5 → xI s2 (z + j) = xI s (z + j) ∧ xA s2 (z + j) = xA s (z + j) := fun j h1 h2 => (o.2 (z + j) (by omega)).2 (by omega)
  have u : ∀ j, 1 ≤ j → j ≤ 5 → xT s2 (z + j) = xT s (z + j) ∧ xL s2 (z + j) = xL s (z + j) ∧ xR s2 (z + j) = xR s (z + j) := fun j h1 h2 => by
    have := (o.2 (z + j) (by omega)).1
    exact ⟨this.1, this.2.1, this.2.2.1⟩
  unfold WoAt WoSh at h ⊢
  rw [(k 1 (by decide) (by decide)).1, (k 2 (by decide) (by decide)).1, (k 3 (by decide) (by decide)).2, (k 4 (by decide) (by decide)).2, (k 5 (by decide) (by decide)).2, (u 1 (by decide) (by decide)).1, (u 1 (by decide) (by decide)).2.2, (u 2 (by decide) (by decide)).1, (u 2 (by decide) (by decide)).2.2, (u 3 (by decide) (by decide)).1, (u 3 (by decide) (by decide)).2.1, (u 4 (by decide) (by decide)).1, (u 4 (by decide) (by decide)).2.1, (u 5 (by decide) (by decide)).1, (u 5 (by decide) (by decide)).2.1]
  exact h
/-- what the words say at i -/
def Tk (F : Nat) (s : XS) (w i : Nat) (t : Int32) : Prop := (∀ k, k < 19 → X_Words_is F s w (nI i) k = some (if t = cd k then 1 else 0, s)) ∧ X_Words_numberAt F s w (nI i) = some (if 0 ≤ t then t else -1, s)
theorem operatorAt_eq {n : Nat} (h : TSh s z rd yy n) (hk : Tk F s (z + 1) i t) : X_TextReader_operatorAt F s rd (nI i) = some (if opk t = 0 then -1 else nI (opk t), s) := by
  obtain ⟨e1, ⟨t8, r80, r81, r82, r83⟩, -⟩ := h
  have tw : xT s (z + 1) = 11 := e1.t 1
  have h7 := hk.1 7 (by decide)
  have h8 := hk.1 8 (by decide)
  have h9 := hk.1 9 (by decide)
  have h10 := hk.1 10 (by decide)
  have h11 := hk.1 11 (by decide)
  simp only [cd] at h7 h8 h9 h10 h11
  unfold opk
  by_cases c7 : t = -10
  · simp [X_TextReader_operatorAt, xGetA, t8, r81, xIs, tw, h7, c7, nIk4, xpT, xpL, xpI, xpR, xpA, xpJ, xpO, xpZ, xInt, xN]
  · by_cases c8 : t = -11
    · simp [X_TextReader_operatorAt, xGetA, t8, r81, xIs, tw, h7, h8, c8, nIk5, xpT, xpL, xpI, xpR, xpA, xpJ, xpO, xpZ, xInt, xN]
    · by_cases c9 : t = -12
      · simp [X_TextReader_operatorAt, xGetA, t8, r81, xIs, tw, h7, h8, h9, c9, nIk6, xpT, xpL, xpI, xpR, xpA, xpJ, xpO, xpZ, xInt, xN]
      · by_cases c10 : t = -13
        · simp [X_TextReader_operatorAt, xGetA, t8, r81, xIs, tw, h7, h8, h9, h10, c10, nIk7, xpT, xpL, xpI, xpR, xpA, xpJ, xpO, xpZ, xInt, xN]
        · by_cases c11 : t = -14
          · simp [X_TextReader_operatorAt, xGetA, t8, r81, xIs, tw, h7, h8, h9, h10, h11, c11, nIk8, xpT, xpL, xpI, xpR, xpA, xpJ, xpO, xpZ, xInt, xN]
          · simp [X_TextReader_operatorAt, xGetA, t8, r81, xIs, tw, h7, h8, h9, h10, h11, c7, c8, c9, c10, c11, xpT, xpL, xpI, xpR, xpA, xpJ, xpO, xpZ, xInt, xN]
theorem relationAt_eq {n : Nat} (h : TSh s z rd yy n) (hk : Tk F s (z + 1) i t) : X_TextReader_relationAt F s rd (nI i) = some (if rlk t = 0 then -1 else nI (rlk t), s) := by
  obtain ⟨e1, ⟨t8, r80, r81, r82, r83⟩, -⟩ := h
  have tw : xT s (z + 1) = 11 := e1.t 1
  have h7 := hk.1 13 (by decide)
  have h8 := hk.1 14 (by decide)
  have h9 := hk.1 15 (by decide)
  have h10 := hk.1 16 (by decide)
  simp only [cd] at h7 h8 h9 h10
  unfold rlk
  by_cases c7 : t = -15
  · simp [X_TextReader_relationAt, xGetA, t8, r81, xIs, tw, h7, c7, nIk9, xpT, xpL, xpI, xpR, xpA, xpJ, xpO, xpZ, xInt, xN]
  · by_cases c8 : t = -16
    · simp [X_TextReader_relationAt, xGetA, t8, r81, xIs, tw, h7, h8, c8, nIk10, xpT, xpL, xpI, xpR, xpA, xpJ, xpO, xpZ, xInt, xN]
    · by_cases c9 : t = -17
      · simp [X_TextReader_relationAt, xGetA, t8, r81, xIs, tw, h7, h8, h9, c9, nIk11, xpT, xpL, xpI, xpR, xpA, xpJ, xpO, xpZ, xInt, xN]
      · by_cases c10 : t = -18
        · simp [X_TextReader_relationAt, xGetA, t8, r81, xIs, tw, h7, h8, h9, h10, c10, nIk12, xpT, xpL, xpI, xpR, xpA, xpJ, xpO, xpZ, xInt, xN]
        · simp [X_TextReader_relationAt, xGetA, t8, r81, xIs, tw, h7, h8, h9, h10, c7, c8, c9, c10, xpT, xpL, xpI, xpR, xpA, xpJ, xpO, xpZ, xInt, xN]
/-- what a word's taking must be -/
def TkR (s : XS) (z rd yy : Nat) (x : Option (Int32 × XS)) (y : Option SA) : Prop := ∃ v s2, x = some (v, s2) ∧ Ow z rd yy s s2 ∧ (y = none → v = 0) ∧ ∀ S2, y = some S2 → v = 1 ∧ TR s2 z rd yy S2
theorem TkR.no {s2 : XS} {x : Option (Int32 × XS)} (h : x = some (0, s2)) (o : Ow z rd yy s s2) : TkR s z rd yy x none := ⟨0, s2, h, o, fun _ => rfl, fun _ q => by cases q⟩
theorem TkR.yes {s2 : XS} {S2 : SA} {x : Option (Int32 × XS)} (h : x = some (1, s2)) (o : Ow z rd yy s s2) (T : TR s2 z rd yy S2) : TkR s z rd yy x (some S2) := ⟨1, s2, h, o, fun q => (by cases q), fun S3 q => (by cases q; exact ⟨rfl, T⟩)⟩
theorem take_item (h : TR s z rd yy (E, 0, ar, rel, nw, L)) (hw : WFS (E, 0, ar, rel, nw, L) i) (hi : i < 400) (hk : ∀ s2, Ow z rd yy s s2 → Tk F s2 (z + 1) i t) : TkR s z rd yy (X_TextReader_takeItem F s rd (nI i)) (ta (E, 0, ar, rel, nw, L) i t) := by
  obtain ⟨hs, h2, h3, hW⟩ := id h
  simp only at hs h2 h3 hW
  have lay := hs.2.2.2.2.2.2
  obtain ⟨e1, ⟨t8, r80, r81, r82, r83⟩, -⟩ := id hs
  have tw : xT s (z + 1) = 11 := e1.t 1
  have hk0 := hk s (Ow.refl z rd yy s)
  have i0 := hk0.1 0 (by decide)
  have i1 := hk0.1 1 (by decide)
  simp only [cd] at i0 i1
  obtain ⟨hb, hw | hw⟩ := hw
  · obtain ⟨-, ⟨f1, f2, f3, f4, f5, f6⟩, -⟩ := hw
    simp only at hb f2 f3
    unfold ta
    simp only [if_true]
    by_cases c0 : t = -1
    · rw [if_pos c0]
      obtain ⟨s1, x1, o1, p1, p2, p3, p4, p5, p6, p7⟩ := rd_put h 4 (Or.inl rfl) 1
      have T1 : TR s1 z rd yy (E, 1, ar, rel, nw, L) := ⟨p1, p2, ((h3.put p4).1 rfl 1 rfl), p3⟩
      obtain ⟨v, s2, x2, o2, u1, u2⟩ := tables_begin (F := F) T1 f2
      have t81 : xT s1 rd = 10 := p1.2.1.1
      have r81' : xR s1 rd 1 = some z := p1.2.1.2.1
      have et0 : xT s1 z = 2 := p1.1.t 0
      have er3 : xR s1 z 2 = some (z + 9) := p1.1.r 0 2 (q := 9)
      have et9 : xT s1 (z + 9) = 9 := p1.1.t 9
      by_cases c1 : E.1 3 < 8
      · rw [if_pos c1]
        obtain ⟨v1, T2⟩ := u1 c1
        refine TkR.yes (s2 := s2) ?_ (o1.trans o2) T2
        simp [X_TextReader_takeItem, xGetA, t8, r81, xIs, tw, i0, c0, x1, t81, r81', et0, er3, et9, x2, v1, hZ, xpT, xpL, xpI, xpR, xpA, xpJ, xpO, xpZ, xInt, xN]
      · rw [if_neg c1]
        refine TkR.no (s2 := s2) ?_ (o1.trans o2)
        simp [X_TextReader_takeItem, xGetA, t8, r81, xIs, tw, i0, c0, x1, t81, r81', et0, er3, et9, x2, u2 c1, hZ, xpT, xpL, xpI, xpR, xpA, xpJ, xpO, xpZ, xInt, xN]
    · rw [if_neg c0]
      have rul : ∀ g : Nat, (g = 0 ∨ g = 1) → (g = 1 ↔ t = -3) → (t = -3 ∨ t = -2) → TkR s z rd yy (X_TextReader_takeItem F s rd (nI i)) (if E.1 4 < 12 then some (bgR E i g, 2, ar, rel, g, L) else none) := by
        intro g hg hgt ht
        obtain ⟨s1, x1, o1, p1, p2, p3, p4, p5, p6, p7⟩ := rd_put h 7 (Or.inr (Or.inr (Or.inr rfl))) (nI g)
        have T1 : TR s1 z rd yy (E, 0, ar, rel, g, L) := ⟨p1, p2, ((h3.put p4).2.2.2 rfl g rfl), p3⟩
        obtain ⟨s2, x2, o2, q1, q2, q3, q4, q5, q6, q7⟩ := rd_put T1 4 (Or.inl rfl) 2
        have T2 : TR s2 z rd yy (E, 2, ar, rel, g, L) := ⟨q1, q2, ((T1.2.2.1.put q4).1 rfl 2 rfl), q3⟩
        obtain ⟨v, s3, x3, o3, u1, u2⟩ := beginRule_eq (F := F) T2 f3 (by omega) i g
        have oo := (o1.trans o2).trans o3
        have t82 : xT s2 rd = 10 := q1.2.1.1
        have r820 : xR s2 rd 1 = some z := q1.2.1.2.1
        have r821 : xR s2 rd 2 = some (z + 1) := q1.2.1.2.2.1
        have et0 : xT s2 z = 2 := q1.1.t 0
        have tw2 : xT s2 (z + 1) = 11 := q1.1.t 1
        have i27 : xI s2 rd 7 = nI g := T2.2.2.1.2.2.2
        have j2 := (hk s2 (o1.trans o2)).1 2 (by decide)
        simp only [cd] at j2
        have x1' : xPutZ s rd 9 7 (nI g) = some s1 := by
          unfold xPutZ
          have : nI g = 0 ∨ nI g = 1 := by rcases hg with rfl | rfl; exact Or.inl rfl; exact Or.inr rfl
          rw [if_pos this]; exact x1
        have pre : X_TextReader_takeItem F s rd (nI i) = ((X_Edition_beginRule F s2 z (nI i)).bind fun q3 => if q3.1 = 0 then some (0, q3.2) else some (1, q3.2)) := by
          by_cases c3 : t = -3
          · have g1 := hgt.mpr c3
            subst g1
            rw [nIk1] at x1' i27
            simp [X_TextReader_takeItem, xGetA, t8, r81, xIs, tw, i0, i1, c3, x1', x2, xGetI, t82, i27, X_TextReader_takeItem_68, r820, et0, xpT, xpL, xpI, xpR, xpA, xpJ, xpO, xpZ, xInt, xN]
          · have g0 : g = 0 := by rcases hg with h | h; exact h; exact absurd (hgt.mp h) c3
            have c2 := ht.resolve_left c3
            subst g0
            rw [nIk0] at x1' i27
            simp [X_TextReader_takeItem, xGetA, t8, r81, xIs, tw, i0, i1, c2, x1', x2, xGetI, t82, i27, r821, tw2, j2, X_TextReader_takeItem_68, r820, et0, xpT, xpL, xpI, xpR, xpA, xpJ, xpO, xpZ, xInt, xN]
        by_cases c4 : E.1 4 < 12
        · rw [if_pos c4]
          obtain ⟨v1, T3⟩ := u1 c4
          refine TkR.yes (s2 := s3) ?_ oo T3
          rw [pre, x3, v1]; rfl
        · rw [if_neg c4]
          refine TkR.no (s2 := s3) ?_ oo
          rw [pre, x3, u2 c4]; rfl
      by_cases c3 : t = -3
      · rw [if_pos c3]
        exact rul 1 (Or.inr rfl) ⟨fun _ => c3, fun _ => rfl⟩ (Or.inl c3)
      · rw [if_neg c3]
        by_cases c2 : t = -2
        · rw [if_pos c2]
          exact rul 0 (Or.inl rfl) ⟨fun q => (by cases q), fun q => absurd q c3⟩ (Or.inr c2)
        · rw [if_neg c2]
          obtain ⟨s1, x1, o1, p1, p2, p3, p4, p5, p6, p7⟩ := rd_put h 7 (Or.inr (Or.inr (Or.inr rfl))) (nI 0)
          have T1 : TR s1 z rd yy (E, 0, ar, rel, 0, L) := ⟨p1, p2, ((h3.put p4).2.2.2 rfl 0 rfl), p3⟩
          obtain ⟨s2, x2, o2, q1, q2, q3, q4, q5, q6, q7⟩ := rd_put T1 4 (Or.inl rfl) 2
          have t82 : xT s2 rd = 10 := q1.2.1.1
          have r821 : xR s2 rd 2 = some (z + 1) := q1.2.1.2.2.1
          have tw2 : xT s2 (z + 1) = 11 := q1.1.t 1
          have i27 : xI s2 rd 7 = 0 := by rw [q4]; simp; exact T1.2.2.1.2.2.2
          have j2 := (hk s2 (o1.trans o2)).1 2 (by decide)
          simp only [cd] at j2
          have x1' : xPutZ s rd 9 7 0 = some s1 := by
            unfold xPutZ
            rw [if_pos (Or.inl rfl)]; exact x1
          refine TkR.no (s2 := s2) ?_ (o1.trans o2)
          simp [X_TextReader_takeItem, xGetA, t8, r81, xIs, tw, i0, i1, c0, c3, c2, x1', x2, xGetI, t82, i27, r821, tw2, j2, xpT, xpL, xpI, xpR, xpA, xpJ, xpO, xpZ, xInt, xN]
  · have := hw.1; simp at this
theorem take_num (h : TR s z rd yy (E, 1, ar, rel, nw, L)) (hw : WFS (E, 1, ar, rel, nw, L) i) (ht : 0 ≤ t → ∃ v : Nat, v < 1000000000 ∧ t = nI v) (hk : ∀ s2, Ow z rd yy s s2 → Tk F s2 (z + 1) i t) : TkR s z rd yy (X_TextReader_takeTableNumber F s rd (nI i)) (ta (E, 1, ar, rel, nw, L) i t) := by
  obtain ⟨hs, h2, h3, hW⟩ := id h
  simp only at hs h2 h3 hW
  have lay := hs.2.2.2.2.2.2
  obtain ⟨e1, ⟨t8, r80, r81, r82, r83⟩, -⟩ := id hs
  have tw : xT s (z + 1) = 11 := e1.t 1
  have et0 : xT s z = 2 := e1.t 0
  have er3 : xR s z 2 = some (z + 9) := e1.r 0 2 (q := 9)
  have et9 : xT s (z + 9) = 9 := e1.t 9
  have hk0 := hk s (Ow.refl z rd yy s)
  have i3 := hk0.1 3 (by decide)
  have inum := hk0.2
  simp only [cd] at i3
  obtain ⟨hb, hw | hw⟩ := hw
  · obtain ⟨-, ⟨f1, f2, f3, f4, f5, f6⟩, -, -, -, -, hh⟩ := hw
    simp only at f2 f5 hh
    have hh := hh trivial
    have h10 := (f5 (E.1 3 - 1) (by omega)).1
    unfold ta
    simp only [show ¬ (1 : Nat) = 0 by decide, if_false, if_true]
    by_cases c0 : t = -19
    · rw [if_pos c0]
      obtain ⟨s1, x1, o1, p1, p2, p3, p4, p5, p6, p7⟩ := rd_put h 4 (Or.inl rfl) 0
      have T1 : TR s1 z rd yy (E, 0, ar, rel, nw, L) := ⟨p1, p2, ((h3.put p4).1 rfl 0 rfl), p3⟩
      have el := tables_last (F := F) T1 f2 hh
      have t81 : xT s1 rd = 10 := p1.2.1.1
      have r81' : xR s1 rd 1 = some z := p1.2.1.2.1
      have et01 : xT s1 z = 2 := p1.1.t 0
      have er31 : xR s1 z 2 = some (z + 9) := p1.1.r 0 2 (q := 9)
      have et91 : xT s1 (z + 9) = 9 := p1.1.t 9
      by_cases c1 : 0 < E.2 3 (E.1 3 - 1)
      · rw [if_pos c1]
        have c2 : ¬ nI (E.2 3 (E.1 3 - 1)) ≤ 0 := nI_nle c1 (by omega)
        refine TkR.yes (s2 := s1) ?_ o1 T1
        simp [X_TextReader_takeTableNumber, xGetA, t8, r81, xIs, tw, i3, c0, x1, t81, r81', et01, er31, et91, el, c2, xpT, xpL, xpI, xpR, xpA, xpJ, xpO, xpZ, xInt, xN]
      · rw [if_neg c1]
        have c2 : nI (E.2 3 (E.1 3 - 1)) ≤ 0 := by rw [show E.2 3 (E.1 3 - 1) = 0 by omega]; decide
        refine TkR.no (s2 := s1) ?_ o1
        simp [X_TextReader_takeTableNumber, xGetA, t8, r81, xIs, tw, i3, c0, x1, t81, r81', et01, er31, et91, el, c2, xpT, xpL, xpI, xpR, xpA, xpJ, xpO, xpZ, xInt, xN]
    · rw [if_neg c0]
      by_cases c1 : 0 ≤ t
      · rw [if_pos c1] at inum ⊢
        obtain ⟨v, hv, et⟩ := ht c1
        have hcl : t.toNatClampNeg = v := by rw [et]; exact nI_clamp (by omega)
        rw [hcl]
        obtain ⟨x, s2, x2, o2, u1, u2⟩ := tables_add (F := F) h f2 hh h10 v
        have hm : ¬ nI v = -1 := nI_ne_m1 (by omega)
        have c0' : ¬ nI v = -19 := by rw [← et]; exact c0
        rw [et] at i3 inum
        by_cases c2 : E.2 3 (E.1 3 - 1) < 10
        · rw [if_pos c2]
          obtain ⟨v1, T2⟩ := u1 c2
          refine TkR.yes (s2 := s2) ?_ o2 T2
          simp [X_TextReader_takeTableNumber, xGetA, t8, r81, xIs, tw, i3, c0', inum, hm, r80, et0, er3, et9, x2, v1, xpT, xpL, xpI, xpR, xpA, xpJ, xpO, xpZ, xInt, xN]
        · rw [if_neg c2]
          refine TkR.no (s2 := s2) ?_ o2
          simp [X_TextReader_takeTableNumber, xGetA, t8, r81, xIs, tw, i3, c0', inum, hm, r80, et0, er3, et9, x2, u2 c2, xpT, xpL, xpI, xpR, xpA, xpJ, xpO, xpZ, xInt, xN]
      · rw [if_neg c1] at inum ⊢
        refine TkR.no (s2 := s) ?_ (Ow.refl z rd yy s)
        simp [X_TextReader_takeTableNumber, xGetA, t8, r81, xIs, tw, i3, c0, inum, xpT, xpL, xpI, xpR, xpA, xpJ, xpO, xpZ, xInt, xN]
  · have := hw.1; simp at this
theorem take_atom (h : TR s z rd yy (E, 2, ar, rel, nw, L)) (hw : WFS (E, 2, ar, rel, nw, L) i) (hi : i < 400) (hF : 400 < F) (ht : 0 ≤ t → ∃ v : Nat, v < 1000000000 ∧ t = nI v) (hk : ∀ s2, Ow z rd yy s s2 → Tk F s2 (z + 1) i t) : TkR s z rd yy (X_TextReader_takeAtom F s rd (nI i)) (ta (E, 2, ar, rel, nw, L) i t) := by
  obtain ⟨hs, h2, h3, hW⟩ := id h
  simp only at hs h2 h3 hW
  have lay := hs.2.2.2.2.2.2
  obtain ⟨e1, ⟨t8, r80, r81, r82, r83⟩, -⟩ := id hs
  have tw : xT s (z + 1) = 11 := e1.t 1
  have et6 : xT s (z + 6) = 8 := e1.t 6
  have hk0 := hk s (Ow.refl z rd yy s)
  have i4 := hk0.1 4 (by decide)
  have i5 := hk0.1 5 (by decide)
  have i6 := hk0.1 6 (by decide)
  have inum := hk0.2
  simp only [cd] at i4 i5 i6
  obtain ⟨hb, hw | hw⟩ := hw
  · have := hw.1; simp at this
  · obtain ⟨-, -, hF1, hR, hL, -, ha, ha13, -, hrel, hnw, hh⟩ := hw
    simp only at hb hL ha ha13
    have ia : xI s rd 5 = nI ar := h3.2.1
    unfold ta
    simp only [show ¬ (2 : Nat) = 0 by decide, show ¬ (2 : Nat) = 1 by decide, if_false, if_true]
    by_cases c0 : 12 < ar
    · rw [if_pos c0]
      have c1 : ¬ nI ar ≤ 12 := nI_ge (b := ar) (a := 12) c0 (by omega)
      refine TkR.no (s2 := s) ?_ (Ow.refl z rd yy s)
      simp [X_TextReader_takeAtom, xGetI, t8, ia, c1, xpT, xpL, xpI, xpR, xpA, xpJ, xpO, xpZ, xInt, xN]
    · rw [if_neg c0]
      have c1 : nI ar ≤ 12 := nI_le (b := 12) (by omega) (by decide)
      by_cases c2 : 0 ≤ t
      · rw [if_pos c2] at inum ⊢
        obtain ⟨v, hv, et⟩ := ht c2
        have hcl : t.toNatClampNeg = v := by rw [et]; exact nI_clamp (by omega)
        rw [hcl]
        rw [et] at inum
        have hm : ¬ nI v = -1 := nI_ne_m1 (by omega)
        obtain ⟨s1, x1, o1, T1⟩ := rd_step (F := F) h (by omega) 0 v 0 (nI v) rfl (by simp)
        obtain ⟨s2, x2, o2, T2⟩ := endAtom_eq (F := F) T1 hL ha ha13 (by rw [emt_2]; omega) hF
        have t81 : xT s1 rd = 10 := T1.1.2.1.1
        refine TkR.yes (s2 := s2) ?_ (o1.trans o2) T2
        simp [X_TextReader_takeAtom, xGetI, t8, ia, c1, xGetA, r81, xIs, tw, inum, hm, r82, et6, x1, t81, x2, xpT, xpL, xpI, xpR, xpA, xpJ, xpO, xpZ, xInt, xN]
      · rw [if_neg c2] at inum ⊢
        by_cases c4 : t = -6
        · rw [if_pos c4]
          obtain ⟨s1, x1, o1, p1, p2, p3, p4, p5, p6, p7⟩ := rd_put h 4 (Or.inl rfl) 3
          refine TkR.yes (s2 := s1) ?_ o1 ⟨p1, p2, ((h3.put p4).1 rfl 3 rfl), p3⟩
          simp [X_TextReader_takeAtom, xGetI, t8, ia, c1, xGetA, r81, xIs, tw, inum, i4, c4, x1, xpT, xpL, xpI, xpR, xpA, xpJ, xpO, xpZ, xInt, xN]
        · rw [if_neg c4]
          by_cases c5 : t = -7
          · rw [if_pos c5]
            obtain ⟨s1, x1, o1, p1, p2, p3, p4, p5, p6, p7⟩ := rd_put h 4 (Or.inl rfl) 4
            refine TkR.yes (s2 := s1) ?_ o1 ⟨p1, p2, ((h3.put p4).1 rfl 4 rfl), p3⟩
            simp [X_TextReader_takeAtom, xGetI, t8, ia, c1, xGetA, r81, xIs, tw, inum, i4, i5, c5, x1, xpT, xpL, xpI, xpR, xpA, xpJ, xpO, xpZ, xInt, xN]
          · rw [if_neg c5]
            by_cases c6 : t = -8
            · rw [if_pos c6]
              obtain ⟨s1, x1, o1, T1⟩ := waitAround_eq (F := F) h (by omega) (k := 3) (v := 0) (x := 3) (y := -1) rfl (by simp)
              refine TkR.yes (s2 := s1) ?_ o1 T1
              simp [X_TextReader_takeAtom, xGetI, t8, ia, c1, xGetA, r81, xIs, tw, inum, i4, i5, i6, c6, x1, xpT, xpL, xpI, xpR, xpA, xpJ, xpO, xpZ, xInt, xN]
            · rw [if_neg c6]
              refine TkR.no (s2 := s) ?_ (Ow.refl z rd yy s)
              simp [X_TextReader_takeAtom, xGetI, t8, ia, c1, xGetA, r81, xIs, tw, inum, i4, i5, i6, c4, c5, c6, xpT, xpL, xpI, xpR, xpA, xpJ, xpO, xpZ, xInt, xN]
theorem take_fact (h : TR s z rd yy (E, 3, ar, rel, nw, L)) (hw : WFS (E, 3, ar, rel, nw, L) i) (hi : i < 400) (hF : 400 < F) (hk : ∀ s2, Ow z rd yy s s2 → Tk F s2 (z + 1) i t) : TkR s z rd yy (X_TextReader_takeFactName F s rd (nI i)) (ta (E, 3, ar, rel, nw, L) i t) := by
  obtain ⟨hs, h2, h3, hW⟩ := id h
  simp only at hs h2 h3 hW
  have lay := hs.2.2.2.2.2.2
  obtain ⟨e1, ⟨t8, r80, r81, r82, r83⟩, -⟩ := id hs
  have tw : xT s (z + 1) = 11 := e1.t 1
  have et6 : xT s (z + 6) = 8 := e1.t 6
  have inum := (hk s (Ow.refl z rd yy s)).2
  obtain ⟨hb, hw | hw⟩ := hw
  · have := hw.1; simp at this
  · obtain ⟨-, -, hF1, hR, hL, -, ha, ha13, -, hrel, hnw, hh⟩ := hw
    simp only at hb hL ha ha13
    unfold ta
    simp only [show ¬ (3 : Nat) = 0 by decide, show ¬ (3 : Nat) = 1 by decide, show ¬ (3 : Nat) = 2 by decide, if_false, if_true]
    by_cases c0 : 0 ≤ t
    · rw [if_pos c0] at inum
      obtain ⟨v, hv, et⟩ := nI_of (Int32.not_lt.mpr c0)
      subst et
      have n0 : ¬ nI v < 0 := nI_pos hv
      have hcl : (nI v).toNatClampNeg = v := nI_clamp hv
      by_cases c1 : nI v < 20
      · rw [if_pos ⟨c0, c1⟩, hcl]
        have e20 : (20 : Int32) = nI 20 := rfl
        have c1' := c1
        rw [e20, nI_ltI hv (by decide)] at c1'
        obtain ⟨s1, x1, o1, T1⟩ := rd_step (F := F) h (by omega) 1 v 1 (nI v) rfl (by simp)
        obtain ⟨s2, x2, o2, T2⟩ := endAtom_eq (F := F) T1 hL ha ha13 (by rw [emt_2]; omega) hF
        have t81 : xT s1 rd = 10 := T1.1.2.1.1
        refine TkR.yes (s2 := s2) ?_ (o1.trans o2) T2
        simp [X_TextReader_takeFactName, xGetA, t8, r81, xIs, tw, inum, n0, c1, r82, et6, x1, t81, x2, xpT, xpL, xpI, xpR, xpA, xpJ, xpO, xpZ, xInt, xN]
      · rw [if_neg (fun q => c1 q.2)]
        refine TkR.no (s2 := s) ?_ (Ow.refl z rd yy s)
        simp [X_TextReader_takeFactName, xGetA, t8, r81, xIs, tw, inum, n0, c1, xpT, xpL, xpI, xpR, xpA, xpJ, xpO, xpZ, xInt, xN]
    · rw [if_neg c0] at inum
      rw [if_neg (fun q => c0 q.1)]
      refine TkR.no (s2 := s) ?_ (Ow.refl z rd yy s)
      simp [X_TextReader_takeFactName, xGetA, t8, r81, xIs, tw, inum, xpT, xpL, xpI, xpR, xpA, xpJ, xpO, xpZ, xInt, xN]
theorem take_place (h : TR s z rd yy (E, 4, ar, rel, nw, L)) (hw : WFS (E, 4, ar, rel, nw, L) i) (hi : i < 400) (hk : ∀ s2, Ow z rd yy s s2 → Tk F s2 (z + 1) i t) : TkR s z rd yy (X_TextReader_takeTableName F s rd (nI i)) (ta (E, 4, ar, rel, nw, L) i t) := by
  obtain ⟨hs, h2, h3, hW⟩ := id h
  simp only at hs h2 h3 hW
  have lay := hs.2.2.2.2.2.2
  obtain ⟨e1, ⟨t8, r80, r81, r82, r83⟩, -⟩ := id hs
  have tw : xT s (z + 1) = 11 := e1.t 1
  have et0 : xT s z = 2 := e1.t 0
  have er3 : xR s z 2 = some (z + 9) := e1.r 0 2 (q := 9)
  have et9 : xT s (z + 9) = 9 := e1.t 9
  have hn : xI s (z + 9) 2 = nI (E.1 3) := h2.2.2.1.1
  have inum := (hk s (Ow.refl z rd yy s)).2
  obtain ⟨hb, hw | hw⟩ := hw
  · have := hw.1; simp at this
  · obtain ⟨-, -, hF1, hR, hL, -, ha, ha13, -, hrel, hnw, hh⟩ := hw
    simp only at hb hL ha ha13
    unfold ta
    simp only [show ¬ (4 : Nat) = 0 by decide, show ¬ (4 : Nat) = 1 by decide, show ¬ (4 : Nat) = 2 by decide, show ¬ (4 : Nat) = 3 by decide, if_false, if_true]
    by_cases c0 : 0 ≤ t
    · rw [if_pos c0] at inum
      obtain ⟨v, hv, et⟩ := nI_of (Int32.not_lt.mpr c0)
      subst et
      have n0 : ¬ nI v < 0 := nI_pos hv
      have hcl : (nI v).toNatClampNeg = v := nI_clamp hv
      by_cases c1 : nI v < nI (E.1 3)
      · rw [if_pos ⟨c0, c1⟩, hcl]
        obtain ⟨s1, x1, o1, T1⟩ := waitAround_eq (F := F) h (by omega) (k := 2) (v := v) (x := 2) (y := nI v) rfl (by simp)
        refine TkR.yes (s2 := s1) ?_ o1 T1
        simp [X_TextReader_takeTableName, xGetA, t8, r81, xIs, tw, inum, n0, r80, et0, er3, xGetI, et9, hn, c1, x1, xpT, xpL, xpI, xpR, xpA, xpJ, xpO, xpZ, xInt, xN]
      · rw [if_neg (fun q => c1 q.2)]
        refine TkR.no (s2 := s) ?_ (Ow.refl z rd yy s)
        simp [X_TextReader_takeTableName, xGetA, t8, r81, xIs, tw, inum, n0, r80, et0, er3, xGetI, et9, hn, c1, xpT, xpL, xpI, xpR, xpA, xpJ, xpO, xpZ, xInt, xN]
    · rw [if_neg c0] at inum
      rw [if_neg (fun q => c0 q.1)]
      refine TkR.no (s2 := s) ?_ (Ow.refl z rd yy s)
      simp [X_TextReader_takeTableName, xGetA, t8, r81, xIs, tw, inum, xpT, xpL, xpI, xpR, xpA, xpJ, xpO, xpZ, xInt, xN]
end TAKE
