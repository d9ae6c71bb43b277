/-! THE CLASS's READER: cells. z the edition, z + 1 its words (to z + 5), z + 6 its steps (z + 7, z + 8), z + 9 its tables (z + 10, z + 11), z + 12 its rules, rd the reader, rd + 1 what waits (rd + 2, rd + 3), yy + k rule k -/
def fe (z yy : Nat) (j : Nat) : Nat := match j with
  | 0 => z | 1 => z + 1 | 2 => z + 2 | 3 => z + 3 | 4 => z + 4 | 5 => z + 5 | 6 => z + 6 | 7 => z + 7 | 8 => z + 8 | 9 => z + 9 | 10 => z + 10 | 11 => z + 11 | 12 => z + 12 | k + 13 => yy + k
theorem fe_r (z yy k : Nat) : fe z yy (13 + k) = yy + k := by rw [Nat.add_comm 13 k]; rfl
/-- the edition but for its day -/
def CE0 (s : XS) (f : Nat → Nat) (E : Ed) : Prop :=
  (True ∧ xI s (f 0) 4 = nI (E.1 4)) ∧
  (xI s (f 6) 2 = nI (E.1 2) ∧ ∀ i, i < E.1 2 → xA s (f 7) i = nI (E.2 0 i) ∧ xA s (f 8) i = if E.2 0 i ≤ 2 then nI (E.2 1 i) else -1) ∧
  (xI s (f 9) 2 = nI (E.1 3) ∧ ∀ t, t < E.1 3 → xA s (f 11) t = nI (E.2 3 t) ∧ ∀ k, k < E.2 3 t → xA s (f 10) (10 * t + k) = nI (E.2 4 (10 * t + k))) ∧
  ∀ k, k < E.1 4 → xI s (f (13 + k)) 0 = nI (E.2 5 k) ∧ xI s (f (13 + k)) 1 = nI (E.2 6 k) ∧ xI s (f (13 + k)) 2 = nI (E.2 7 k) ∧ xI s (f (13 + k)) 3 = nI (E.2 8 k) ∧ xI s (f (13 + k)) 4 = nI (E.2 9 k)
theorem CE0.of {s s2 : XS} {f : Nat → Nat} {E : Ed} (h : CE0 s f E) (hI : ∀ j, j < 13 + E.1 4 → xI s2 (f j) = xI s (f j)) (hA : ∀ j, j < 13 → xA s2 (f j) = xA s (f j)) : CE0 s2 f E := by
  obtain ⟨h1, h2, h3, h4⟩ := h
  unfold CE0
  rw [hI 0 (by omega), hI 6 (by omega), hI 9 (by omega), hA 7 (by omega), hA 8 (by omega), hA 10 (by omega), hA 11 (by omega)]
  refine ⟨h1, h2, h3, fun k hk => ?_⟩
  rw [hI (13 + k) (by omega)]
  exact h4 k hk
/-- shapes -/
def TSh (s : XS) (z rd yy rc : Nat) : Prop := ESh s (fe z yy) rc ∧ (xT s rd = 10 ∧ xR s rd 1 = some z ∧ xR s rd 2 = some (z + 1) ∧ xR s rd 3 = some (z + 6) ∧ xR s rd 0 = some (rd + 1)) ∧ (xT s (rd + 1) = 8 ∧ xR s (rd + 1) 0 = some (rd + 2) ∧ xR s (rd + 1) 1 = some (rd + 3)) ∧ (xT s (rd + 2) = 20 ∧ xL s (rd + 2) = 400) ∧ (xT s (rd + 3) = 20 ∧ xL s (rd + 3) = 400) ∧ xZ s = yy + rc ∧ (z + 13 ≤ yy ∧ rd + 4 ≤ yy ∧ (rd + 4 ≤ z ∨ z + 13 ≤ rd))
/-- everything below z is as it was -/
def Old (z : Nat) (s s2 : XS) : Prop := ∀ c, c < z → xT s2 c = xT s c ∧ xL s2 c = xL s c ∧ xI s2 c = xI s c ∧ xR s2 c = xR s c ∧ xA s2 c = xA s c ∧ xJ s2 c = xJ s c ∧ xO s2 c = xO s c
theorem Old.refl (z : Nat) (s : XS) : Old z s s := fun _ _ => ⟨rfl, rfl, rfl, rfl, rfl, rfl, rfl⟩
theorem Old.trans {z : Nat} {s s2 s3 : XS} (h : Old z s s2) (g : Old z s2 s3) : Old z s s3 := fun c hc => by
  obtain ⟨h1, h2, h3, h4, h5, h6, h7⟩ := h c hc
  obtain ⟨g1, g2, g3, g4, g5, g6, g7⟩ := g c hc
  exact ⟨g1.trans h1, g2.trans h2, g3.trans h3, g4.trans h4, g5.trans h5, g6.trans h6, g7.trans h7⟩
/-- what the reading leaves as it was: shapes below yy, and all but the draft's and the reader's own cells -/
def Ow (z rd yy : Nat) (s s2 : XS) : Prop := xZ s ≤ xZ s2 ∧ ∀ c, c < yy → (xT s2 c = xT s c ∧ xL s2 c = xL s c ∧ xR s2 c = xR s c ∧ xJ s2 c = xJ s c ∧ (c ≠ z + 12 → xO s2 c = xO s c)) ∧ ((c ≠ z ∧ (c < z + 6 ∨ z + 12 < c) ∧ (c < rd ∨ rd + 3 < c)) → xI s2 c = xI s c ∧ xA s2 c = xA s c)
theorem Ow.refl (z rd yy : Nat) (s : XS) : Ow z rd yy s s := ⟨Nat.le_refl _, fun _ _ => ⟨⟨rfl, rfl, rfl, rfl, fun _ => rfl⟩, fun _ => ⟨rfl, rfl⟩⟩⟩
theorem Ow.trans {z rd yy : Nat} {s s2 s3 : XS} (h : Ow z rd yy s s2) (g : Ow z rd yy s2 s3) : Ow z rd yy s s3 := ⟨Nat.le_trans h.1 g.1, fun c hc => by
  obtain ⟨⟨h1, h2, h3, h4, h5⟩, h6⟩ := h.2 c hc
  obtain ⟨⟨g1, g2, g3, g4, g5⟩, g6⟩ := g.2 c hc
  exact ⟨⟨g1.trans h1, g2.trans h2, g3.trans h3, g4.trans h4, fun q => (g5 q).trans (h5 q)⟩, fun q => ⟨(g6 q).1.trans (h6 q).1, (g6 q).2.trans (h6 q).2⟩⟩⟩
/-- what waits -/
def Wt (s : XS) (rd : Nat) : List (Nat × Nat) → Prop
  | [] => True
  | x :: L => xA s (rd + 2) L.length = nI x.1 ∧ xA s (rd + 3) L.length = (if x.1 = 2 then nI x.2 else -1) ∧ Wt s rd L
def RD (s : XS) (rd : Nat) (aw ar rel nw : Nat) : Prop := xI s rd 4 = nI aw ∧ xI s rd 5 = nI ar ∧ xI s rd 6 = (if rel = 0 then -1 else nI rel) ∧ xI s rd 7 = nI nw
def WD (s : XS) (rd : Nat) (L : List (Nat × Nat)) : Prop := xI s (rd + 1) 2 = nI L.length ∧ Wt s rd L
def TR (s : XS) (z rd yy : Nat) (S : SA) : Prop := TSh s z rd yy (S.1.1 4) ∧ CE0 s (fe z yy) S.1 ∧ RD s rd S.2.1 S.2.2.1 S.2.2.2.1 S.2.2.2.2.1 ∧ WD s rd S.2.2.2.2.2
theorem Wt.of {s s2 : XS} {rd : Nat} (h1 : xA s2 (rd + 2) = xA s (rd + 2)) (h2 : xA s2 (rd + 3) = xA s (rd + 3)) : ∀ {L : List (Nat × Nat)}, Wt s rd L → Wt s2 rd L := by
  intro L
  induction L with
  | nil => intro _; trivial
  | cons x L ih =>
    intro h
    simp only [Wt] at h ⊢
    rw [h1, h2]
    exact ⟨h.1, h.2.1, ih h.2.2⟩
theorem Wt.up {s s2 : XS} {rd n : Nat} (h1 : ∀ i, i < n → xA s2 (rd + 2) i = xA s (rd + 2) i) (h2 : ∀ i, i < n → xA s2 (rd + 3) i = xA s (rd + 3) i) : ∀ {L : List (Nat × Nat)}, L.length ≤ n → Wt s rd L → Wt s2 rd L := by
  intro L
  induction L with
  | nil => intro _ _; trivial
  | cons x L ih =>
    intro hl h
    simp only [List.length_cons] at hl
    simp only [Wt] at h ⊢
    rw [h1 _ (by omega), h2 _ (by omega)]
    exact ⟨h.1, h.2.1, ih (by omega) h.2.2⟩
section RDX
variable {F : Nat} {s : XS} {z rd yy : Nat} {E : Ed} {aw ar rel nw : Nat} {L : List (Nat × Nat)}
theorem TSh.keep {s2 : XS} {rc : Nat} (h : TSh s z rd yy rc) (hT : xT s2 = xT s) (hL : xL s2 = xL s) (hR : xR s2 = xR s) (hO : xO s2 = xO s) (hZ : xZ s2 = xZ s) : TSh s2 z rd yy rc := by
  unfold TSh ESh
  rw [hT, hL, hR, hO, hZ]
  exact h
/-- a change of ints and int arrays at z and above -/
theorem Ow.up (s : XS) {I2 : Nat → Nat → Int32} {A2 : Nat → Nat → Int32} (h1 : ∀ c, (c < yy ∧ c ≠ z ∧ (c < z + 6 ∨ z + 12 < c) ∧ (c < rd ∨ rd + 3 < c)) → I2 c = xI s c) (h2 : ∀ c, (c < yy ∧ c ≠ z ∧ (c < z + 6 ∨ z + 12 < c) ∧ (c < rd ∨ rd + 3 < c)) → A2 c = xA s c) : Ow z rd yy s (xT s, xL s, I2, xR s, A2, xJ s, xO s, xZ s) := ⟨Nat.le_refl _, fun c hc => ⟨⟨rfl, rfl, rfl, rfl, fun _ => rfl⟩, fun q => ⟨h1 c ⟨hc, q⟩, h2 c ⟨hc, q⟩⟩⟩⟩
/-- a field of the reader -/
theorem rd_put (h : TR s z rd yy (E, aw, ar, rel, nw, L)) (k : Nat) (hk : k = 4 ∨ k = 5 ∨ k = 6 ∨ k = 7) (v : Int32) : ∃ s2, xPutI s rd 9 k v = some s2 ∧ Ow z rd yy s s2 ∧ TSh s2 z rd yy (E.1 4) ∧ CE0 s2 (fe z yy) E ∧ WD s2 rd L ∧ (∀ j, xI s2 rd j = if j = k then v else xI s rd j) ∧ xA s2 = xA s ∧ (∀ c, c ≠ rd → xI s2 c = xI s c) ∧ xT s2 = xT s := by
  obtain ⟨h1, h2, h3, h4⟩ := h
  obtain ⟨e1, ⟨t8, -⟩, -⟩ := id h1
  simp only at h1 h2 h4
  have lay := h1.2.2.2.2.2.2
  refine ⟨(xT s, xL s, xUp (xI s) rd k v, xR s, xA s, xJ s, xO s, xZ s), ?_, Ow.up s (fun c hc => xUp_ne _ _ _ (by omega)) (fun _ _ => rfl), h1.keep rfl rfl rfl rfl rfl, ?_, ?_, fun j => by simp [xUp, xpT, xpL, xpI, xpR, xpA, xpJ, xpO, xpZ, xInt, xN], rfl, fun c hc => xUp_ne _ _ _ hc, rfl⟩
  · rcases hk with rfl | rfl | rfl | rfl <;> simp [xPutI, t8, xpT, xpL, xpI, xpR, xpA, xpJ, xpO, xpZ, xInt, xN]
  · refine h2.of (fun j hj => ?_) (fun _ _ => rfl)
    apply xUp_ne
    intro e
    have t := (e1.1 j hj).1
    rw [e, t8] at t
    have hlt : tgE j ≤ 9 ∨ 10 < tgE j := by
      unfold tgE
      repeat' split
      all_goals omega
    omega
  · exact ⟨by rw [xpI, xUp_ne _ _ _ (by omega)]; exact h4.1, Wt.of (s := s) (by rfl) (by rfl) h4.2⟩
theorem RD.put {s2 : XS} (h : RD s rd aw ar rel nw) {k : Nat} {v : Int32} (hi : ∀ j, xI s2 rd j = if j = k then v else xI s rd j) : (k = 4 → ∀ x, v = nI x → RD s2 rd x ar rel nw) ∧ (k = 5 → ∀ x, v = nI x → RD s2 rd aw x rel nw) ∧ (k = 6 → ∀ x, v = (if x = 0 then -1 else nI x) → RD s2 rd aw ar x nw) ∧ (k = 7 → ∀ x, v = nI x → RD s2 rd aw ar rel x) := by
  obtain ⟨h1, h2, h3, h4⟩ := h
  unfold RD
  rw [hi, hi, hi, hi]
  refine ⟨?_, ?_, ?_, ?_⟩
  · rintro rfl x hx; simp [hx, h2, h3, h4]
  · rintro rfl x hx; simp [hx, h1, h3, h4]
  · rintro rfl x hx; simp [hx, h1, h2, h4]
  · rintro rfl x hx; simp [hx, h1, h2, h3]
/-- Steps.add, of either row -/
theorem steps_add {c k1 k2 n : Nat} (tc : xT s c = 8) (r0 : xR s c 0 = some k1) (r1 : xR s c 1 = some k2) (t1 : xT s k1 = 20) (l1 : xL s k1 = 400) (t2 : xT s k2 = 20) (l2 : xL s k2 = 400) (hn : xI s c 2 = nI n) (h4 : n < 400) (x y : Int32) : X_Steps_add F s c x y = some (xT s, xL s, xUp (xI s) c 2 (nI (n + 1)), xR s, xUp (xUp (xA s) k1 n x) k2 n y, xJ s, xO s, xZ s) := by
  have a1 : ¬ nI n < 0 := nI_pos (by omega)
  have e4 : Int32.ofNat 400 = nI 400 := rfl
  have a2 : ¬ nI 400 ≤ nI n := nI_ge h4 (by decide)
  have a3 : (nI n).toNatClampNeg = n := nI_clamp (by omega)
  have a4 : ¬ 400 ≤ n := by omega
  simp [X_Steps_add, xGetI, tc, hn, a1, xGetA, r0, r1, xLen, t1, l1, t2, l2, e4, a2, xStI, xSt, a3, a4, xPutI, nI_1, xpT, xpL, xpI, xpR, xpA, xpJ, xpO, xpZ, xInt, xN]
theorem steps_rem {c n : Nat} (tc : xT s c = 8) (hn : xI s c 2 = nI (n + 1)) (h4 : n < 400) : X_Steps_removeLast F s c = some (xT s, xL s, xUp (xI s) c 2 (nI n), xR s, xA s, xJ s, xO s, xZ s) := by
  have a1 : ¬ nI (n + 1) ≤ 0 := nI_nle (by omega) (by omega)
  simp [X_Steps_removeLast, xGetI, tc, hn, a1, xPutI, nI_pred, xpT, xpL, xpI, xpR, xpA, xpJ, xpO, xpZ, xInt, xN]
theorem CE0.step {f : Nat → Nat} {s2 : XS} {k v : Nat} (h : CE0 s f E) (i0 : xI s2 (f 0) = xI s (f 0)) (i6 : xI s2 (f 6) 2 = nI (E.1 2 + 1)) (i9 : xI s2 (f 9) = xI s (f 9)) (ir : ∀ k, k < E.1 4 → xI s2 (f (13 + k)) = xI s (f (13 + k))) (a7 : xA s2 (f 7) = fun j => if j = E.1 2 then nI k else xA s (f 7) j) (a8 : xA s2 (f 8) = fun j => if j = E.1 2 then (if k ≤ 2 then nI v else -1) else xA s (f 8) j) (a10 : xA s2 (f 10) = xA s (f 10)) (a11 : xA s2 (f 11) = xA s (f 11)) : CE0 s2 f (emt E k v) := by
  obtain ⟨h1, ⟨h2, h3⟩, ⟨h4, h5⟩, h6⟩ := h
  have hx := emt_ext E k v
  have s3 : (emt E k v).1 3 = E.1 3 := hx.1 3 (by decide)
  have s4 : (emt E k v).1 4 = E.1 4 := hx.1 4 (by decide)
  have q := hx.2.2.1
  unfold CE0
  rw [i0, i6, i9, s3, s4, emt_2, q 3 (by decide), q 4 (by decide), q 5 (by decide), q 6 (by decide), q 7 (by decide), q 8 (by decide), q 9 (by decide), a10, a11]
  refine ⟨h1, ⟨rfl, fun i hi => ?_⟩, ⟨h4, h5⟩, fun k hk => by rw [ir k hk]; exact h6 k hk⟩
  rw [a7, a8]
  by_cases c : i = E.1 2
  · subst c
    obtain ⟨e1, e2⟩ := emt_at E k v
    rw [e1, e2]
    simp
  · obtain ⟨e1, e2⟩ := hx.2.2.2.1 i (by omega)
    rw [e1, e2]
    simp only [c, if_false]
    exact h3 i (by omega)
/-- one more step of the edition -/
theorem rd_step (h : TR s z rd yy (E, aw, ar, rel, nw, L)) (h4 : E.1 2 < 400) (k v : Nat) (x y : Int32) (hx : x = nI k) (hy : y = if k ≤ 2 then nI v else -1) : ∃ s2, X_Steps_add F s (z + 6) x y = some s2 ∧ Ow z rd yy s s2 ∧ TR s2 z rd yy (emt E k v, aw, ar, rel, nw, L) := by
  subst hx hy
  obtain ⟨h1, h2, h3, hW⟩ := h
  simp only at h1 h2 h3 hW
  have lay := h1.2.2.2.2.2.2
  have e1 := h1.1
  have et6 : xT s (z + 6) = 8 := e1.t 6
  have er0 : xR s (z + 6) 0 = some (z + 7) := e1.r 6 0 (q := 7)
  have er1 : xR s (z + 6) 1 = some (z + 8) := e1.r 6 1 (q := 8)
  have et7 : xT s (z + 7) = 20 := e1.t 7
  have el7 : xL s (z + 7) = 400 := e1.l 7
  have et8 : xT s (z + 8) = 20 := e1.t 8
  have el8 : xL s (z + 8) = 400 := e1.l 8
  have hn : xI s (z + 6) 2 = nI (E.1 2) := h2.2.1.1
  have n1 : z + 7 ≠ z + 8 := by omega
  refine ⟨_, steps_add (F := F) et6 er0 er1 et7 el7 et8 el8 hn h4 _ _, Ow.up s (fun c hc => xUp_ne _ _ _ (by omega)) (fun c hc => by rw [xUp_ne _ _ _ (by omega), xUp_ne _ _ _ (by omega)]), ?_, ?_, ?_, ?_⟩
  · have s4 : (emt E k v).1 4 = E.1 4 := (emt_ext E k v).1 4 (by decide)
    show TSh _ z rd yy ((emt E k v).1 4)
    rw [s4]
    exact h1.keep rfl rfl rfl rfl rfl
  · refine CE0.step h2 ?_ ?_ ?_ ?_ ?_ ?_ ?_ ?_
    · exact xUp_ne _ _ _ (show z ≠ z + 6 by omega)
    · show xUp (xI s) (z + 6) 2 (nI (E.1 2 + 1)) (z + 6) 2 = _
      simp [xUp]
    · exact xUp_ne _ _ _ (show z + 9 ≠ z + 6 by omega)
    · intro k hk
      rw [fe_r]
      exact xUp_ne _ _ _ (by omega)
    · show xUp (xUp (xA s) (z + 7) (E.1 2) (nI k)) (z + 8) (E.1 2) _ (z + 7) = _
      rw [xUp_ne _ _ _ n1, xUp_row]; rfl
    · show xUp (xUp (xA s) (z + 7) (E.1 2) (nI k)) (z + 8) (E.1 2) _ (z + 8) = _
      rw [xUp_row, xUp_ne _ _ _ (Ne.symm n1)]; rfl
    · show xUp (xUp (xA s) (z + 7) (E.1 2) (nI k)) (z + 8) (E.1 2) _ (z + 10) = xA s (z + 10)
      rw [xUp_ne _ _ _ (by omega), xUp_ne _ _ _ (by omega)]
    · show xUp (xUp (xA s) (z + 7) (E.1 2) (nI k)) (z + 8) (E.1 2) _ (z + 11) = xA s (z + 11)
      rw [xUp_ne _ _ _ (by omega), xUp_ne _ _ _ (by omega)]
  · unfold RD
    rw [xpI, xUp_ne _ _ _ (show rd ≠ z + 6 by omega)]
    exact h3
  · refine ⟨?_, Wt.of (s := s) ?_ ?_ hW.2⟩
    · rw [xpI, xUp_ne _ _ _ (show rd + 1 ≠ z + 6 by omega)]; exact hW.1
    · show xUp (xUp (xA s) (z + 7) (E.1 2) (nI k)) (z + 8) (E.1 2) _ (rd + 2) = xA s (rd + 2)
      rw [xUp_ne _ _ _ (by omega), xUp_ne _ _ _ (by omega)]
    · show xUp (xUp (xA s) (z + 7) (E.1 2) (nI k)) (z + 8) (E.1 2) _ (rd + 3) = xA s (rd + 3)
      rw [xUp_ne _ _ _ (by omega), xUp_ne _ _ _ (by omega)]
/-- one more that waits -/
theorem rd_push (h : TR s z rd yy (E, aw, ar, rel, nw, L)) (h4 : L.length < 400) (k v : Nat) (x y : Int32) (hx : x = nI k) (hy : y = if k = 2 then nI v else -1) : ∃ s2, X_Steps_add F s (rd + 1) x y = some s2 ∧ Ow z rd yy s s2 ∧ TR s2 z rd yy (E, aw, ar, rel, nw, (k, v) :: L) := by
  subst hx hy
  obtain ⟨h1, h2, h3, hW⟩ := h
  simp only at h1 h2 h3 hW
  have lay := h1.2.2.2.2.2.2
  obtain ⟨e1, -, ⟨et6, er0, er1⟩, ⟨et7, el7⟩, ⟨et8, el8⟩, -⟩ := id h1
  have n1 : rd + 2 ≠ rd + 3 := by omega
  refine ⟨_, steps_add (F := F) et6 er0 er1 et7 el7 et8 el8 hW.1 h4 _ _, Ow.up s (fun c hc => xUp_ne _ _ _ (by omega)) (fun c hc => by rw [xUp_ne _ _ _ (by omega), xUp_ne _ _ _ (by omega)]), h1.keep rfl rfl rfl rfl rfl, ?_, ?_, ?_, ?_⟩
  · refine h2.of (fun j hj => ?_) (fun j hj => ?_)
    · apply xUp_ne
      intro e
      have t := (e1.1 j hj).1
      by_cases c6 : j = 6
      · subst c6
        have : z + 6 = rd + 1 := e
        omega
      · rw [e, et6] at t
        have : j = 6 := by
          unfold tgE at t
          revert t
          repeat' split
          all_goals omega
        omega
    · show xUp (xUp (xA s) (rd + 2) _ _) (rd + 3) _ _ (fe z yy j) = xA s _
      have hlt := h1.2.2.2.2.2.2
      have : fe z yy j ≠ rd + 3 ∧ fe z yy j ≠ rd + 2 := by
        have hj' : j = 0 ∨ j = 1 ∨ j = 2 ∨ j = 3 ∨ j = 4 ∨ j = 5 ∨ j = 6 ∨ j = 7 ∨ j = 8 ∨ j = 9 ∨ j = 10 ∨ j = 11 ∨ j = 12 := by omega
        rcases hj' with e | e | e | e | e | e | e | e | e | e | e | e | e <;> subst e <;> simp only [fe] <;> omega
      rw [xUp_ne _ _ _ this.1, xUp_ne _ _ _ this.2]
  · unfold RD
    rw [xpI, xUp_ne _ _ _ (show rd ≠ rd + 1 by omega)]
    exact h3
  · simp [xUp, xpT, xpL, xpI, xpR, xpA, xpJ, xpO, xpZ, xInt, xN]
  · refine ⟨?_, ?_, ?_⟩
    · simp [xUp, xpT, xpL, xpI, xpR, xpA, xpJ, xpO, xpZ, xInt, xN]
    · simp [xUp, xpT, xpL, xpI, xpR, xpA, xpJ, xpO, xpZ, xInt, xN]
    · refine Wt.up (n := L.length) (s := s) (fun i hi => ?_) (fun i hi => ?_) (Nat.le_refl _) hW.2
      · have : ¬ i = L.length := by omega
        simp [xUp, this, xpT, xpL, xpI, xpR, xpA, xpJ, xpO, xpZ, xInt, xN]
      · have : ¬ i = L.length := by omega
        simp [xUp, this, xpT, xpL, xpI, xpR, xpA, xpJ, xpO, xpZ, xInt, xN]
/-- one less -/
theorem rd_rem {k v : Nat} (h : TR s z rd yy (E, aw, ar, rel, nw, (k, v) :: L)) (h4 : L.length < 400) : ∃ s2, X_Steps_removeLast F s (rd + 1) = some s2 ∧ Ow z rd yy s s2 ∧ TR s2 z rd yy (E, aw, ar, rel, nw, L) := by
  obtain ⟨h1, h2, h3, hW⟩ := h
  simp only at h1 h2 h3 hW
  have lay := h1.2.2.2.2.2.2
  obtain ⟨e1, -, ⟨et6, er0, er1⟩, -⟩ := id h1
  refine ⟨_, steps_rem (F := F) et6 hW.1 h4, Ow.up s (fun c hc => xUp_ne _ _ _ (by omega)) (fun _ _ => rfl), h1.keep rfl rfl rfl rfl rfl, ?_, ?_, ?_, Wt.of (s := s) (by rfl) (by rfl) hW.2.2.2⟩
  · refine h2.of (fun j hj => ?_) (fun _ _ => rfl)
    apply xUp_ne
    intro e
    have t := (e1.1 j hj).1
    by_cases c6 : j = 6
    · subst c6
      have : z + 6 = rd + 1 := e
      omega
    · rw [e, et6] at t
      have : j = 6 := by
        unfold tgE at t
        revert t
        repeat' split
        all_goals omega
      omega
  · unfold RD
    rw [xpI, xUp_ne _ _ _ (show rd ≠ rd + 1 by omega)]
    exact h3
  · simp [xUp, xpT, xpL, xpI, xpR, xpA, xpJ, xpO, xpZ, xInt, xN]
end RDX
