section READINV
variable {F : Nat} {s : XS} {a : Nat → Nat} {m : MS} {n : Nat} {rc : Nat → Nat} {Es : Nat → Ed} {nt : Nat} {v : Nat → Nat} {B : Nat}
/-- the new reader stands at its beginning -/
theorem tr_new {s1 s2 : XS} {dn nt : Nat} {d : Int32} (hd : d = nI dn) (H : Sh s a n rc) (h1 : EdN s s1 d (a 21)) (h2 : RdN s1 s2 (xZ s) (a 21) (xZ s + 1)) : Old (xZ s) s s2 ∧ TR s2 (xZ s) (a 21) (a 22) (a 23) (a 24) (a 25) (E0 dn nt, 0, 0, 0, 0, []) := by
  obtain ⟨o1, z1, ⟨c0, c1, c2, c3, c4, c5, c6⟩, ⟨d0, d1, d2, d3⟩, ⟨f0, f1⟩, ⟨g0, g1⟩, ⟨i0, i1, i2, i3⟩, ⟨j0, j1⟩, ⟨k0, k1⟩, ⟨l0, l1, l2⟩⟩ := h1
  obtain ⟨o2, z2, ⟨p0, p1, p2, p3, p4, p5, p6, p7, p8⟩, ⟨q0, q1, q2, q3⟩, ⟨r0, r1⟩, ⟨u0, u1⟩⟩ := h2
  rw [z1] at o2 z2 p0 p1 p2 p3 p4 p5 p6 p7 p8 q0 q1 q2 q3 r0 r1 u0 u1
  have o : Old (xZ s) s s2 := o1.trans (fun c hc => o2 c (by omega))
  have w : ∀ k, k < 8 → Eqc s1 s2 (xZ s + k) := fun k hk => o2 (xZ s + k) (by omega)
  have w0 := w 0 (by decide)
  rw [Nat.add_zero] at w0
  have lr : ∀ r, r < 26 → a r < xZ s := fun r h => H.lr h
  have t21 : xT s (a 21) = 11 := H.t 21
  have r21_0 : xR s (a 21) 0 = some (a 22) := H.r 21 0
  have r21_1 : xR s (a 21) 1 = some (a 24) := H.r 21 1
  have r21_2 : xR s (a 21) 2 = some (a 25) := H.r 21 2
  have t22 : xT s (a 22) = 1 := H.t 22
  have r22_0 : xR s (a 22) 0 = some (a 23) := H.r 22 0
  have t23 : xT s (a 23) = 21 := H.t 23
  have l23 : xL s (a 23) = 800 := H.l 23
  have t24 : xT s (a 24) = 20 := H.t 24
  have l24 : xL s (a 24) = 400 := H.l 24
  have t25 : xT s (a 25) = 20 := H.t 25
  have l25 : xL s (a 25) = 400 := H.l 25
  have x21 := o _ (lr 21 (by decide))
  have x22 := o _ (lr 22 (by decide))
  have x23 := o _ (lr 23 (by decide))
  have x24 := o _ (lr 24 (by decide))
  have x25 := o _ (lr 25 (by decide))
  have e40 : (E0 dn nt).1 4 = 0 := by simp [E0]
  have e20 : (E0 dn nt).1 2 = 0 := by simp [E0]
  have e30 : (E0 dn nt).1 3 = 0 := by simp [E0]
  have e00 : (E0 dn nt).1 0 = dn := by simp [E0]
  refine ⟨o, ⟨⟨?_, ?_, ?_, ?_⟩, ⟨p0, p1, p2, p3, p4⟩, ⟨q0, q2, q3⟩, ⟨r0, r1⟩, ⟨u0, u1⟩, ?_, ⟨lr 21 (by decide), lr 22 (by decide), lr 23 (by decide), lr 24 (by decide), lr 25 (by decide)⟩, ?_⟩, ⟨⟨?_, ?_⟩, ⟨?_, ?_⟩, ⟨?_, ?_⟩, ?_⟩, ⟨p5, p6, ?_, p8⟩, ⟨q1, trivial⟩⟩
  · rw [show (E0 dn nt, 0, 0, 0, 0, ([] : List (Nat × Nat))).1.1 4 = 0 from e40]
    intro j hj
    have hj' : j = 0 ∨ j = 1 ∨ j = 2 ∨ j = 3 ∨ j = 4 ∨ j = 5 ∨ j = 6 ∨ j = 7 ∨ j = 8 ∨ j = 9 ∨ j = 10 ∨ j = 11 ∨ j = 12 := by omega
    rcases hj' with e | e | e | e | e | e | e | e | e | e | e | e | e <;> subst e <;> simp only [fe, tgE, lnE]
    · exact ⟨w0.1.trans c0, fun q => absurd q (by decide)⟩
    · exact ⟨x21.1.trans t21, fun q => absurd q (by decide)⟩
    · exact ⟨x22.1.trans t22, fun q => absurd q (by decide)⟩
    · exact ⟨x23.1.trans t23, fun _ => x23.2.1.trans l23⟩
    · exact ⟨x24.1.trans t24, fun _ => x24.2.1.trans l24⟩
    · exact ⟨x25.1.trans t25, fun _ => x25.2.1.trans l25⟩
    · exact ⟨(w 1 (by decide)).1.trans d0, fun q => absurd q (by decide)⟩
    · exact ⟨(w 2 (by decide)).1.trans f0, fun _ => (w 2 (by decide)).2.1.trans f1⟩
    · exact ⟨(w 3 (by decide)).1.trans g0, fun _ => (w 3 (by decide)).2.1.trans g1⟩
    · exact ⟨(w 4 (by decide)).1.trans i0, fun q => absurd q (by decide)⟩
    · exact ⟨(w 5 (by decide)).1.trans j0, fun _ => (w 5 (by decide)).2.1.trans j1⟩
    · exact ⟨(w 6 (by decide)).1.trans k0, fun _ => (w 6 (by decide)).2.1.trans k1⟩
    · exact ⟨(w 7 (by decide)).1.trans l0, fun _ => (w 7 (by decide)).2.1.trans l1⟩
  · intro j k q hq
    unfold rfE at hq
    split at hq <;> first | (cases hq; done) | skip
    all_goals
      obtain rfl := Option.some.inj hq
      simp only [fe]
    · rw [w0.2.2.2.1]; exact c3
    · rw [w0.2.2.2.1]; exact c4
    · rw [w0.2.2.2.1]; exact c5
    · rw [w0.2.2.2.1]; exact c6
    · rw [x21.2.2.2.1]; exact r21_0
    · rw [x21.2.2.2.1]; exact r21_1
    · rw [x21.2.2.2.1]; exact r21_2
    · rw [x22.2.2.2.1]; exact r22_0
    · rw [(w 1 (by decide)).2.2.2.1]; exact d2
    · rw [(w 1 (by decide)).2.2.2.1]; exact d3
    · rw [(w 4 (by decide)).2.2.2.1]; exact i2
    · rw [(w 4 (by decide)).2.2.2.1]; exact i3
  · intro k hk
    simp only [e40] at hk
    omega
  · simp only [e40]; omega
  · simp only [e40]; exact z2
  · intro k _ _
    rw [(w 7 (by decide)).2.2.2.2.2.2]; exact l2 k
  · simp only [fe, e00]
    rw [w0.2.2.1, c1, hd]
  · simp only [fe, e40]
    rw [w0.2.2.1, c2]; rfl
  · simp only [fe, e20]
    rw [(w 1 (by decide)).2.2.1, d1]; rfl
  · intro i hi
    simp only [e20] at hi
    omega
  · simp only [fe, e30]
    rw [(w 4 (by decide)).2.2.1, i1]; rfl
  · intro t ht
    simp only [e30] at ht
    omega
  · intro k hk
    simp only [e40] at hk
    omega
  · rw [p7]; rfl
theorem keep_eq (H : Sh s a n rc) (h1 : xI s (a 0) 1 = nI n) (hn : n < 6) {z : Nat} (tz : xT s z = 2) : X_LT_keep F s (a 0) z = some (xT s, xL s, xUp (xI s) (a 0) 1 (nI (n + 1)), xR s, xA s, xJ s, xUp (xO s) (a 1) n (some z), xZ s) := by
  have t0 : xT s (a 0) = 12 := H.t 0
  have r0_0 : xR s (a 0) 0 = some (a 1) := H.r 0 0
  have r0_2 : xR s (a 0) 2 = some (a 21) := H.r 0 2
  have r0_3 : xR s (a 0) 3 = some (a 2) := H.r 0 3
  have r0_4 : xR s (a 0) 4 = some (a 5) := H.r 0 4
  have r0_5 : xR s (a 0) 5 = some (a 7) := H.r 0 5
  have r0_6 : xR s (a 0) 6 = some (a 12) := H.r 0 6
  have r0_7 : xR s (a 0) 7 = some (a 17) := H.r 0 7
  have r0_8 : xR s (a 0) 8 = some (a 19) := H.r 0 8
  have t1 : xT s (a 1) = 41 := H.t 1
  have l1 : xL s (a 1) = 6 := H.l 1
  have b1 : ¬ nI n < 0 := nI_pos (by omega)
  have e6 : Int32.ofNat 6 = nI 6 := rfl
  have b2 : ¬ nI 6 ≤ nI n := nI_ge hn (by decide)
  have b3 : (nI n).toNatClampNeg = n := nI_clamp (by omega)
  have b4 : ¬ 6 ≤ n := by omega
  simp [X_LT_keep, xGetI, t0, h1, b1, xGetA, r0_0, xLen, t1, l1, e6, b2, xStA, tz, b3, b4, xPutI, nI_1, xpT, xpL, xpI, xpR, xpA, xpJ, xpO, xpZ, xInt, xN]
theorem read_inv (I : Inv s a m n rc Es nt v B) (hF : 900 < F) (x : Int32) (hWz : ∀ q, X_LT_read F s (a 0) x = some q → ∀ c, xT q.2 c ≠ 0 → c < xZ q.2) : ∃ r s2 m2 a2 n2 rc2 Es2 nt2, X_LT_read F s (a 0) x = some (r, s2) ∧ N_Mo_read F m x = some (r, m2) ∧ Inv s2 a2 m2 n2 rc2 Es2 nt2 v B ∧ a2 0 = a 0 := by
  obtain ⟨H, i1, i2, i3, i4, i5, i6, i7⟩ := id I
  by_cases hx : x < 0 ∨ 100000 < x
  · exact ⟨-1000, s, sPut m 0 0, a, n, rc, Es, nt, readX_bad H hx, readN_bad hx, I.code 0, rfl⟩
  · obtain ⟨dn, hdn, rfl⟩ : ∃ dn : Nat, dn ≤ 100000 ∧ x = nI dn := nI_of2 (M := 100000) (by decide) (fun q => hx (Or.inl q)) (Int32.not_lt.mp (fun q => hx (Or.inr q)))
    obtain ⟨tN1, tN2⟩ := readN_top (F := F) (i5.en H) hdn
    obtain ⟨tX1, tX2⟩ := readX_top (F := F) H i5 hdn
    have t0 : xT s (a 0) = 12 := H.t 0
    have r0_0 : xR s (a 0) 0 = some (a 1) := H.r 0 0
    have r0_2 : xR s (a 0) 2 = some (a 21) := H.r 0 2
    have r0_3 : xR s (a 0) 3 = some (a 2) := H.r 0 3
    have r0_4 : xR s (a 0) 4 = some (a 5) := H.r 0 4
    have r0_5 : xR s (a 0) 5 = some (a 7) := H.r 0 5
    have r0_6 : xR s (a 0) 6 = some (a 12) := H.r 0 6
    have r0_7 : xR s (a 0) 7 = some (a 17) := H.r 0 7
    have r0_8 : xR s (a 0) 8 = some (a 19) := H.r 0 8
    have t1 : xT s (a 1) = 41 := H.t 1
    have l1 : xL s (a 1) = 6 := H.l 1
    have t21 : xT s (a 21) = 11 := H.t 21
    have r21_0 : xR s (a 21) 0 = some (a 22) := H.r 21 0
    have r21_1 : xR s (a 21) 1 = some (a 24) := H.r 21 1
    have r21_2 : xR s (a 21) 2 = some (a 25) := H.r 21 2
    by_cases hb : mayB n dn Es
    · obtain ⟨j1, j2, j3, j4⟩ := id i1
      have h8 := j1.2.2.1
      have hg : nrm (m.2.1 1) nt := fun i hi => by rw [← j3 i hi]; exact j4 i hi
      -- the two rows agree
      have cW : wc (m.2.1 1) nt = wc (xA s (a 23)) nt := wc_congr (fun i hi => (j3 i hi).symm)
      have cB := wb_congr (f := m.2.1 1) (g := xA s (a 23)) (n := nt) (fun i hi => (j3 i hi).symm)
      have cE := we_congr (f := m.2.1 1) (g := xA s (a 23)) (n := nt) (fun i hi => (j3 i hi).symm)
      have cT : ∀ i, i < wc (xA s (a 23)) nt → tok (m.2.1 1) nt i = tok (xA s (a 23)) nt i := by
        intro i hi
        unfold tok
        rw [cB, cE]
        apply tk_congr
        intro k _ hk
        have := ((w_facts (xA s (a 23)) nt).1 i hi).2
        exact (j3 k (by omega)).symm
      -- the reference
      obtain ⟨xr, mr, er, dr⟩ := read61_eq (F := F) (m := sPut m 0 0) (e := n) (nt := nt) (dn := dn) hb.1 h8 hg hF hdn (by simp [sPut, upd]; exact i5.1.2) (by simp [sPut, upd]; exact j2)
      have em : (sPut m 0 0).2 = m.2 := rfl
      rw [em, cW, run_congr (t1 := tok (m.2.1 1) nt) (t2 := tok (xA s (a 23)) nt) _ _ _ (fun i _ hi => cT i (by omega))] at dr
      have f0 : FrB n m (sPut m 0 0) := FrB.put m 0 0 (by decide)
      -- the class
      obtain ⟨s1, e1, D1⟩ := ed_new (F := F) (s := s) (nI dn) (a 21)
      have D1' := D1
      obtain ⟨o1, z1, ⟨c0, c1, c2, c3, c4, c5, c6⟩, -⟩ := D1'
      obtain ⟨s2, e2, D2⟩ := rd_new (F := F) (s := s1) (z := xZ s) (w := a 21) (st := xZ s + 1) (by omega) c0 c3 c4
      obtain ⟨o2, T2⟩ := tr_new (nt := nt) rfl H D1 D2
      have lt : a 21 < xZ s ∧ a 22 < xZ s ∧ a 23 < xZ s ∧ a 24 < xZ s ∧ a 25 < xZ s := ⟨H.lr (by decide), H.lr (by decide), H.lr (by decide), H.lr (by decide), H.lr (by decide)⟩
      have a23 : xA s2 (a 23) = xA s (a 23) := (o2 _ lt.2.2.1).2.2.2.2.1
      have hW4 := wc_400 (g := xA s (a 23)) h8
      obtain ⟨s3, e3, o3, y3⟩ := firstWrong_loop (F := F) (nt := nt) (by omega) lt (wc (xA s (a 23)) nt) 0 401 s2 (E0 dn nt, 0, 0, 0, 0, []) (by rw [a23]; omega) (by omega) T2 (E0_wf hdn) (j1.old lt o2) (by rw [a23]; exact j4)
      rw [a23] at e3 y3
      have o03 := o2.trans o3
      have t03 : xT s3 (a 0) = 12 := by rw [(o03 _ (H.lr (by decide))).1]; exact t0
      have r03 : xR s3 (a 0) 2 = some (a 21) := by rw [(o03 _ (H.lr (by decide))).2.2.2.1]; exact r0_2
      have t213 : xT s3 (a 21) = 11 := by rw [(o03 _ lt.1).1]; exact t21
      have n0z : ¬ a 0 = xZ s := by have := H.lr (r := 0) (by decide); omega
      have t05 : xT (xNewO s 1) (a 0) = 12 := by simp [xNewO, xUq, n0z, t0, xpT, xpL, xpI, xpR, xpA, xpJ, xpO, xpZ, xInt, xN]
      have r05 : xR (xNewO s 1) (a 0) 2 = some (a 21) := by simp [xNewO, xUq, n0z, r0_2, xpT, xpL, xpI, xpR, xpA, xpJ, xpO, xpZ, xInt, xN]
      have t8 : xT s2 (xZ s1) = 10 := by rw [z1]; exact T2.1.2.1.1
      have pre : X_LT_read F s (a 0) (nI dn) = if (match run (tok (xA s (a 23)) nt) (wc (xA s (a 23)) nt) 0 (E0 dn nt, 0, 0, 0, 0, []) with | .inl j => nI j | .inr _ => -1) = (-1) then (X_LT_keep F s3 (a 0) (xZ s)).bind fun q19 => (X_Words_init F (xNewO q19 10) (xZ q19)).bind fun q23 => (xPutR q23 (a 0) 11 2 (xZ q19)).bind fun y25 => (xGetI y25 (xZ s) 1 5).bind fun v27 => some (v27, y25) else (X_Words_clear F s3 (a 21)).bind fun q30 => some (((-1) - (match run (tok (xA s (a 23)) nt) (wc (xA s (a 23)) nt) 0 (E0 dn nt, 0, 0, 0, 0, []) with | .inl j => nI j | .inr _ => -1)), q30) := by
        have z1' : xZ s1 = xZ s + 8 := z1
        have e3' : X_TextReader_firstWrong F s2 (xZ s1) = some (match run (tok (xA s (a 23)) nt) (wc (xA s (a 23)) nt) 0 (E0 dn nt, 0, 0, 0, 0, []) with | .inl j => nI j | .inr _ => -1, s3) := by rw [z1']; exact e3
        have gA : xIs s (a 0) 11 = some () := by simp [xIs, t0]
        have gB : xGetA (xNewO s 1) (a 0) 11 2 = some (a 21) := by simp [xGetA, t05, r05, xpT, xpL, xpI, xpR, xpA, xpJ, xpO, xpZ, xInt, xN]
        have gC : xIs s2 (xZ s1) 9 = some () := by simp [xIs, t8]
        have gD : xIs s3 (a 0) 11 = some () := by simp [xIs, t03]
        have gE : xGetA s3 (a 0) 11 2 = some (a 21) := by simp [xGetA, t03, r03, xpT, xpL, xpI, xpR, xpA, xpJ, xpO, xpZ, xInt, xN]
        have gF : xIs s3 (a 21) 10 = some () := by simp [xIs, t213]
        unfold X_LT_read
        simp only [gA, Option.bind_some, tX1 hb, show ¬ (1 : Int32) = 0 by decide, if_false, gB, e1, e2, gC, e3', gD, gE, gF]
      rcases dr with ⟨j, q1, q2, q3, q4, q5⟩ | ⟨m1, E2, nw2, q1, q2, q3, q4, q5, q6, q7, q8, q9⟩
      · -- a wrong word
        rw [q2] at pre
        have hj4 := wc_400 (g := (sPut m 0 0).2.1 1) h8
        have hj : ¬ nI j = -1 := nI_ne_m1 (by omega)
        obtain ⟨s5, e5, T5, Z5⟩ := wclear (F := F) ((j1.old lt o03).1)
        have hw5 := hWz (((-1) - nI j), s5) (by
          rw [pre]
          simp only [hj, if_false, e5, Option.bind_some])
        have I3 := I.old o03 (H.wz o03 (fun c hc => by
          have := hw5 c (by rw [T5]; exact hc)
          rw [Z5] at this
          exact this))
        obtain ⟨s4, e4, I4⟩ := cleared (F := F) I3 (f0.trans q4) q5
        refine ⟨xr, s4, mr, a, n, rc, Es, 0, ?_, by rw [tN1 hb]; exact er, I4, rfl⟩
        rw [pre]
        simp only [hj, if_false, e4, Option.bind_some, q3]
      · -- the edition is kept
        rw [q1] at pre
        obtain ⟨T3, w3, -⟩ := y3 _ q1
        have fw := (run_fw _ _ _ _ (E0_fw dn nt) q1).1
        rw [Nat.zero_add] at fw
        have hZ : xZ s3 = xZ s + 12 + E2.1 4 := T3.1.2.2.2.2.2.1
        have H3 := H.old o03 (fun r hr => by have := H.2.2.2.2.2.2.2.2.2.1 r hr; omega)
        have h31 : xI s3 (a 0) 1 = nI n := by rw [(o03 _ (H.lr (by decide))).2.2.1]; exact i5.1.1
        have tz3 : xT s3 (xZ s) = 2 := T3.1.1.t 0
        have ek := keep_eq (F := F) H3 h31 hb.1 tz3
        obtain ⟨s4, hs4⟩ : ∃ q, q = ((xT s3, xL s3, xUp (xI s3) (a 0) 1 (nI (n + 1)), xR s3, xA s3, xJ s3, xUp (xO s3) (a 1) n (some (xZ s)), xZ s3) : XS) := ⟨_, rfl⟩
        rw [← hs4] at ek
        have z4 : xZ s4 = xZ s3 := by rw [hs4]
        obtain ⟨s5, e5, o5, z5, W5⟩ := wo_new (F := F) (s := s4)
        rw [z4] at o5 z5 W5
        obtain ⟨s6, hs6⟩ : ∃ q, q = ((xT s5, xL s5, xI s5, xUp (xR s5) (a 0) 2 (some (xZ s3)), xA s5, xJ s5, xO s5, xZ s5) : XS) := ⟨_, rfl⟩
        have l03 : a 0 < xZ s3 := by have := H.lr (r := 0) (by decide); omega
        have t05' : xT s5 (a 0) = 12 := by rw [(o5 _ l03).1, hs4]; exact t03
        have e6 : xPutR s5 (a 0) 11 2 (xZ s3) = some s6 := by rw [hs6]; simp [xPutR, t05', xpT, xpL, xpI, xpR, xpA, xpJ, xpO, xpZ, xInt, xN]
        have N : Nw s3 s6 (a 0) (a 1) n (xZ s) (xZ s3) := by
          intro c hc
          obtain ⟨x1, x2, x3, x4, x5, x6, x7⟩ := o5 c hc
          refine ⟨?_, ?_, fun k => ?_, fun k => ?_, ?_, ?_, fun k => ?_⟩
          · rw [hs6]; show xT s5 c = _; rw [x1, hs4]
          · rw [hs6]; show xL s5 c = _; rw [x2, hs4]
          · rw [hs6]; show xI s5 c k = _; rw [x3, hs4]
            show xUp (xI s3) (a 0) 1 (nI (n + 1)) c k = _
            unfold xUp
            by_cases c1 : c = a 0 <;> by_cases c2 : k = 1 <;> simp [c1, c2]
          · rw [hs6]
            show xUp (xR s5) (a 0) 2 (some (xZ s3)) c k = _
            have : xR s5 c k = xR s3 c k := by rw [x4, hs4]
            unfold xUp
            by_cases c1 : c = a 0
            · by_cases c2 : k = 2
              · simp [c1, c2]
              · rw [if_pos c1, if_neg c2, if_neg (fun q => c2 q.2)]; exact this
            · rw [if_neg c1, if_neg (fun q => c1 q.1)]; exact this
          · rw [hs6]; show xA s5 c = _; rw [x5, hs4]
          · rw [hs6]; show xJ s5 c = _; rw [x6, hs4]
          · rw [hs6]; show xO s5 c k = _; rw [x7, hs4]
            show xUp (xO s3) (a 1) n (some (xZ s)) c k = _
            unfold xUp
            by_cases c1 : c = a 1 <;> by_cases c2 : k = n <;> simp [c1, c2]
        have W6 : WoAt s6 (xZ s3) (xZ s3 + 1) (xZ s3 + 2) (xZ s3 + 3) (xZ s3 + 4) 0 := by
          rw [hs6]
          unfold WoAt WoSh at W5 ⊢
          simp only [xpT, xpL, xpI, xpR, xpA, xpJ, xpO, xpZ, xInt, xN] at W5 ⊢
          rw [xUp_ne _ _ _ (show xZ s3 ≠ a 0 by omega), xUp_ne _ _ _ (show xZ s3 + 1 ≠ a 0 by omega)]
          exact W5
        have z6 : xZ s6 = xZ s3 + 5 := by rw [hs6]; exact z5
        rw [em] at q5 q6 q7 q8
        have I6 := inv_new I hb.1 o03 T3 hZ N W6 z6 (f0.trans q3) q4 (tk2 := tok (m.2.1 1) nt) (by rw [← cW]; exact q5) w3 fw (by
            intro i hi
            have := q7 i (by rw [cW]; exact hi)
            rw [cB, cE] at this
            refine ⟨this.1, this.2.1, ?_⟩
            rw [this.2.2]
            have h9 := cT i hi
            unfold tok at h9
            rw [cB, cE] at h9
            exact h9) (fun i hi => by rw [q8 i hi]; exact (j3 i hi).symm)
        have hzl : xZ s < xZ s3 := by omega
        have nz : xZ s ≠ a 0 := fun q => n0z q.symm
        have t6z : xT s6 (xZ s) = 2 := by rw [(N _ hzl).1]; exact tz3
        have i6z : xI s6 (xZ s) 5 = nI (E2.1 4) := by rw [(N _ hzl).2.2.1, if_neg (fun q => nz q.1)]; exact T3.2.1.1.2
        refine ⟨xr, s6, mr, aN a n (xZ s) (xZ s3), n + 1, rcN rc n (E2.1 4), EsN Es n E2, 0, ?_, by rw [tN1 hb]; exact er, ?_, aN_o (by decide)⟩
        · rw [pre]
          simp only [if_true, ek, Option.bind_some]
          rw [e5, Option.bind_some, z4, e6, Option.bind_some]
          simp [xGetI, t6z, i6z, q2, xpT, xpL, xpI, xpR, xpA, xpJ, xpO, xpZ, xInt, xN]
        · rw [q9]
          have h3 : m1.1 3 = (sPut m 0 0).1 3 := q3.1.1 3 (by decide)
          rw [← h3]
          exact I6
    · refine ⟨-1000, s, sPut m 0 0, a, n, rc, Es, nt, ?_, tN2 hb, I.code 0, rfl⟩
      simp [X_LT_read, xIs, t0, tX2 hb]
end READINV
