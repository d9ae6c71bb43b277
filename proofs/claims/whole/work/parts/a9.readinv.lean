section READINV
variable {F : Nat} {s : XS} {a : Nat → Nat} {m : MS} {n : Nat} {rc : Nat → Nat} {Es : Nat → Ed} {nt : Nat} {v : Nat → Nat} {B : Nat}
theorem rfE_k {j k x : Nat} (h : rfE j k = some x) : k < 10 := by
  unfold rfE at h
  revert h
  split <;> intro h <;> first | (cases h; done) | omega
/-- draft and reader lie apart -/
theorem Lay.apart (H : Sh s a n rc) (L : Lay a) : a 26 + 13 ≤ xZ s ∧ a 34 + 4 ≤ xZ s ∧ (a 34 + 4 ≤ a 26 ∨ a 26 + 13 ≤ a 34) := by
  have h1 := H.lr (r := 33) (by decide)
  have h2 := H.lr (r := 37) (by decide)
  have l33 := L.l33
  have l37 : a 37 = a 34 + 3 := L.2.2 2 (by decide)
  refine ⟨by omega, by omega, ?_⟩
  apply Classical.byContradiction
  intro q
  by_cases c : a 26 ≤ a 34
  · have hj : a 34 - a 26 < 13 := by omega
    have e := L.dw hj
    have hd := (tg_dr _ hj).2.2
    exact H.ne (i := dr (a 34 - a 26)) (j := 34) hd.1 (by decide) (by omega) (by rw [e]; omega)
  · obtain ⟨j, hj⟩ : ∃ j, a 26 = a 34 + (1 + j) := ⟨a 26 - a 34 - 1, by omega⟩
    have e := L.2.2 j (by omega)
    exact H.ne (i := 35 + j) (j := 26) (by omega) (by decide) (by omega) (by rw [e, hj])
theorem Wk.ow {s1 s3 : XS} {z rd yy : Nat} (h : Wk z rd yy s s1) (hr : rd < yy) (g : Ow z rd yy s1 s3) : Wk z rd yy s s3 := by
  obtain ⟨h1, h2, h3⟩ := h
  obtain ⟨g1, g2⟩ := g
  refine ⟨fun c hc => ?_, by rw [(g2 rd hr).1.2.2.1]; exact h2, Nat.le_trans h3 g1⟩
  obtain ⟨⟨u1, u2, u3, u4, u5⟩, u6⟩ := h1 c hc
  obtain ⟨⟨w1, w2, w3, w4, w5⟩, w6⟩ := g2 c hc
  exact ⟨⟨w1.trans u1, w2.trans u2, w4.trans u3, fun q => w3.trans (u4 q), fun q => (w5 q).trans (u5 q)⟩, fun q => ⟨(w6 q).1.trans (u6 q).1, (w6 q).2.trans (u6 q).2⟩⟩
/-- the reader begins -/
theorem begin_eq (H : Sh s a n rc) (D : SimD s a) (dn nt : Nat) : ∃ s1, X_TextReader_begin F s (a 34) (a 26) = some s1 ∧ Wk (a 26) (a 34) (xZ s) s s1 ∧ TR s1 (a 26) (a 34) (xZ s) (E0 dn nt, 0, 0, 0, 0, []) := by
  obtain ⟨L, d1, d2, d3⟩ := D
  have ap := L.apart H
  have t26 : xT s (a 26) = 2 := H.t 26
  have r26_0 : xR s (a 26) 0 = some (a 21) := H.r 26 0
  have r26_1 : xR s (a 26) 1 = some (a 27) := H.r 26 1
  have r26_2 : xR s (a 26) 2 = some (a 30) := H.r 26 2
  have r26_3 : xR s (a 26) 3 = some (a 33) := H.r 26 3
  have t27 : xT s (a 27) = 8 := H.t 27
  have r27_0 : xR s (a 27) 0 = some (a 28) := H.r 27 0
  have r27_1 : xR s (a 27) 1 = some (a 29) := H.r 27 1
  have t34 : xT s (a 34) = 10 := H.t 34
  have r34_0 : xR s (a 34) 0 = some (a 35) := H.r 34 0
  have t35 : xT s (a 35) = 8 := H.t 35
  have r35_0 : xR s (a 35) 0 = some (a 36) := H.r 35 0
  have r35_1 : xR s (a 35) 1 = some (a 37) := H.r 35 1
  have t36 : xT s (a 36) = 20 := H.t 36
  have l36 : xL s (a 36) = 400 := H.l 36
  have t37 : xT s (a 37) = 20 := H.t 37
  have l37 : xL s (a 37) = 400 := H.l 37
  have n1 : a 26 ≠ a 34 := H.ne
  have n2 : a 26 ≠ a 35 := H.ne
  have n3 : a 27 ≠ a 34 := H.ne
  have n4 : a 27 ≠ a 35 := H.ne
  have n5 : a 30 ≠ a 34 := H.ne
  have n6 : a 30 ≠ a 35 := H.ne
  have n7 : a 35 ≠ a 34 := H.ne
  have p21 : a 21 = a 26 + 1 := L.1 0 (by decide)
  have p27 : a 27 = a 26 + 6 := L.2.1 0 (by decide)
  have p30 : a 30 = a 26 + 9 := L.2.1 3 (by decide)
  have p35 : a 35 = a 34 + 1 := L.2.2 0 (by decide)
  have p36 : a 36 = a 34 + 2 := L.2.2 1 (by decide)
  have p37 : a 37 = a 34 + 3 := L.2.2 2 (by decide)
  have u1 : ∀ (f : Nat → Nat → Option Nat) (k : Nat) (x : Option Nat), xUp f (a 34) k x (a 26) = f (a 26) := fun f k x => xUp_ne _ _ _ n1
  obtain ⟨R1, hR1⟩ : ∃ R1, R1 = xUp (xUp (xUp (xR s) (a 34) 1 (some (a 26))) (a 34) 2 (some (a 21))) (a 34) 3 (some (a 27)) := ⟨_, rfl⟩
  have R0 : R1 (a 34) 0 = some (a 35) := by rw [hR1]; simp [xUp, r34_0]
  have Ro : ∀ c, c ≠ a 34 → R1 c = xR s c := fun c hc => by rw [hR1, xUp_ne _ _ _ hc, xUp_ne _ _ _ hc, xUp_ne _ _ _ hc]
  obtain ⟨I1, hI1⟩ : ∃ I1, I1 = xUp (xUp (xUp (xUp (xUp (xI s) (a 35) 2 0) (a 34) 4 0) (a 34) 5 0) (a 34) 6 (-1)) (a 34) 7 0 := ⟨_, rfl⟩
  have Io : ∀ c, c ≠ a 34 → c ≠ a 35 → I1 c = xI s c := fun c h1 h2 => by rw [hI1, xUp_ne _ _ _ h1, xUp_ne _ _ _ h1, xUp_ne _ _ _ h1, xUp_ne _ _ _ h1, xUp_ne _ _ _ h2]
  obtain ⟨s1, hs1⟩ : ∃ y : XS, y = (xT s, xL s, I1, R1, xA s, xJ s, xO s, xZ s) := ⟨_, rfl⟩
  have Ts : xT s1 = xT s := by rw [hs1]
  have Ls : xL s1 = xL s := by rw [hs1]
  have Is : xI s1 = I1 := by rw [hs1]
  have Rs : xR s1 = R1 := by rw [hs1]
  have As : xA s1 = xA s := by rw [hs1]
  have Js : xJ s1 = xJ s := by rw [hs1]
  have Os : xO s1 = xO s := by rw [hs1]
  have Zs : xZ s1 = xZ s := by rw [hs1]
  have e40 : (E0 dn nt).1 4 = 0 := by simp [E0]
  have e20 : (E0 dn nt).1 2 = 0 := by simp [E0]
  have e30 : (E0 dn nt).1 3 = 0 := by simp [E0]
  refine ⟨s1, ?_, ⟨fun c hc => ⟨⟨by rw [Ts], by rw [Ls], by rw [Js], fun q => by rw [Rs, Ro c q], fun _ => by rw [Os]⟩, fun q => ⟨by rw [Is, Io c (by omega) (by omega)], by rw [As]⟩⟩, by rw [Rs, R0, r34_0], by rw [Zs]; exact Nat.le_refl _⟩, ?_⟩
  · have R0' : xUp (xUp (xUp (xR s) (a 34) 1 (some (a 26))) (a 34) 2 (some (a 21))) (a 34) 3 (some (a 27)) (a 34) 0 = some (a 35) := by rw [← hR1]; exact R0
    rw [hs1, hI1, hR1]
    simp [X_TextReader_begin, X_Steps_clear, xGetA, xPutR, xPutI, xIs, t26, t34, t35, u1, r26_0, r26_1, R0', xpT, xpL, xpI, xpR, xpA, xpJ, xpO, xpZ, xInt, xN]
  · refine ⟨⟨⟨?_, ?_, ?_, ?_⟩, ⟨?_, ?_, ?_, ?_, ?_⟩, ⟨?_, ?_, ?_⟩, ⟨?_, ?_⟩, ⟨?_, ?_⟩, ?_, ap⟩, ⟨⟨trivial, ?_⟩, ⟨?_, ?_⟩, ⟨?_, ?_⟩, ?_⟩, ⟨?_, ?_, ?_, ?_⟩, ⟨?_, trivial⟩⟩
    · rw [show (E0 dn nt, 0, 0, 0, 0, ([] : List (Nat × Nat))).1.1 4 = 0 from e40]
      intro j hj
      have := tg_dr j hj
      rw [fe_lo hj, ← L.dw hj, Ts, Ls, ← this.1, ← this.2.1]
      exact H.1 (dr j) this.2.2.1
    · intro j k q hq
      have hj := rfE_lt hq
      have hk := rfE_k hq
      have h1 := rf_dr j hj k hk
      rw [hq] at h1
      have h2 := H.2.1 (dr j) k (dr q) h1
      have := tg_dr j hj
      rw [fe_lo hj, ← L.dw hj, fe_lo (rfE_q hq), ← L.dw (rfE_q hq), Rs, Ro _ (H.ne this.2.2.1 (by decide) (by omega))]
      exact h2
    · intro k hk
      simp only [e40] at hk
      omega
    · simp only [e40]; omega
    · rw [Ts]; exact t34
    · rw [Rs, hR1]; simp [xUp]
    · rw [Rs, hR1, ← p21]; simp [xUp]
    · rw [Rs, hR1, ← p27]; simp [xUp]
    · rw [Rs, R0, p35]
    · rw [Ts, ← p35]; exact t35
    · rw [Rs, ← p35, ← p36, Ro _ n7]; exact r35_0
    · rw [Rs, ← p35, ← p37, Ro _ n7]; exact r35_1
    · rw [Ts, ← p36]; exact t36
    · rw [Ls, ← p36]; exact l36
    · rw [Ts, ← p37]; exact t37
    · rw [Ls, ← p37]; exact l37
    · simp only [e40]; exact Zs
    · simp only [fe, e40]
      rw [Is, Io _ n1 n2, d1]; rfl
    · simp only [fe, e20]
      rw [← p27, Is, Io _ n3 n4, d2]; rfl
    · intro i hi
      simp only [e20] at hi
      omega
    · simp only [fe, e30]
      rw [← p30, Is, Io _ n5 n6, d3]; rfl
    · intro t ht
      simp only [e30] at ht
      omega
    · intro k hk
      simp only [e40] at hk
      omega
    · rw [Is, hI1]; simp [xUp, nI_0]
    · rw [Is, hI1]; simp [xUp, nI_0]
    · rw [Is, hI1]; simp [xUp]
    · rw [Is, hI1]; simp [xUp, nI_0]
    · rw [Is, hI1, ← p35]; simp [xUp, n7, nI_0]
theorem keep_eq (H : Sh s a n rc) (h1 : xI s (a 0) 1 = nI n) (hn : n < 6) {z : Nat} (tz : xT s z = 2) : X_LT_keep F s (a 0) z = some (xT s, xL s, xUp (xI s) (a 0) 1 (nI (n + 1)), xR s, xA s, xJ s, xUp (xO s) (a 1) n (some z), xZ s) := by
  have t0 : xT s (a 0) = 12 := H.t 0
  have r0_0 : xR s (a 0) 0 = some (a 1) := H.r 0 0
  have r0_2 : xR s (a 0) 2 = some (a 26) := H.r 0 2
  have r0_3 : xR s (a 0) 3 = some (a 34) := H.r 0 3
  have r0_4 : xR s (a 0) 4 = some (a 2) := H.r 0 4
  have r0_5 : xR s (a 0) 5 = some (a 5) := H.r 0 5
  have r0_6 : xR s (a 0) 6 = some (a 7) := H.r 0 6
  have r0_7 : xR s (a 0) 7 = some (a 12) := H.r 0 7
  have r0_8 : xR s (a 0) 8 = some (a 17) := H.r 0 8
  have r0_9 : xR s (a 0) 9 = some (a 19) := H.r 0 9
  have t1 : xT s (a 1) = 41 := H.t 1
  have l1 : xL s (a 1) = 6 := H.l 1
  have b1 : ¬ nI n < 0 := nI_pos (by omega)
  have e6 : Int32.ofNat 6 = nI 6 := rfl
  have b2 : ¬ nI 6 ≤ nI n := nI_ge hn (by decide)
  have b3 : (nI n).toNatClampNeg = n := nI_clamp (by omega)
  have b4 : ¬ 6 ≤ n := by omega
  simp [X_LT_keep, xGetI, t0, h1, b1, xGetA, r0_0, xLen, t1, l1, e6, b2, xStA, tz, b3, b4, xPutI, nI_1, xpT, xpL, xpI, xpR, xpA, xpJ, xpO, xpZ, xInt, xN]
theorem read_inv (I : Inv s a m n rc Es nt v B) (hF : 900 < F) (x : Int32) (_hWz : ∀ q, X_LT_read F s (a 0) x = some q → ∀ c, xT q.2 c ≠ 0 → c < xZ q.2) : ∃ r s2 m2 a2 n2 rc2 Es2 nt2, X_LT_read F s (a 0) x = some (r, s2) ∧ N_Mo_read F m x = some (r, m2) ∧ Inv s2 a2 m2 n2 rc2 Es2 nt2 v B ∧ a2 0 = a 0 := by
  obtain ⟨H, i1, i2, i3, i4, i5, i6, i7⟩ := id I
  by_cases hx : x < 0 ∨ 100000 < x
  · exact ⟨-1000, s, sPut m 0 0, a, n, rc, Es, nt, readX_bad H hx, readN_bad hx, I.code 0, rfl⟩
  · obtain ⟨dn, hdn, rfl⟩ : ∃ dn : Nat, dn ≤ 100000 ∧ x = nI dn := nI_of2 (M := 100000) (by decide) (fun q => hx (Or.inl q)) (Int32.not_lt.mp (fun q => hx (Or.inr q)))
    obtain ⟨tN1, tN2⟩ := readN_top (F := F) (i5.en H) hdn
    obtain ⟨tX1, tX2⟩ := readX_top (F := F) H i5 hdn
    have t0 : xT s (a 0) = 12 := H.t 0
    have r0_0 : xR s (a 0) 0 = some (a 1) := H.r 0 0
    have r0_2 : xR s (a 0) 2 = some (a 26) := H.r 0 2
    have r0_3 : xR s (a 0) 3 = some (a 34) := H.r 0 3
    have r0_4 : xR s (a 0) 4 = some (a 2) := H.r 0 4
    have r0_5 : xR s (a 0) 5 = some (a 5) := H.r 0 5
    have r0_6 : xR s (a 0) 6 = some (a 7) := H.r 0 6
    have r0_7 : xR s (a 0) 7 = some (a 12) := H.r 0 7
    have r0_8 : xR s (a 0) 8 = some (a 17) := H.r 0 8
    have r0_9 : xR s (a 0) 9 = some (a 19) := H.r 0 9
    have t1 : xT s (a 1) = 41 := H.t 1
    have l1 : xL s (a 1) = 6 := H.l 1
    have t26 : xT s (a 26) = 2 := H.t 26
    have r26_0 : xR s (a 26) 0 = some (a 21) := H.r 26 0
    have r26_1 : xR s (a 26) 1 = some (a 27) := H.r 26 1
    have r26_2 : xR s (a 26) 2 = some (a 30) := H.r 26 2
    have r26_3 : xR s (a 26) 3 = some (a 33) := H.r 26 3
    have t34 : xT s (a 34) = 10 := H.t 34
    have r34_0 : xR s (a 34) 0 = some (a 35) := H.r 34 0
    by_cases hb : mayB n dn Es
    · obtain ⟨j1, j2, j3, j4, j5⟩ := id i1
      have L := j5.1
      have ap := L.apart H
      have h8 := j1.2.2.1
      have hg : nrm (m.2.1 1) nt := fun i hi => by rw [← j3 i hi]; exact j4 i hi
      -- the two rows agree
      have cW : wc (m.2.1 1) nt = wc (xA s (a 23)) nt := wc_congr (fun i hi => (j3 i hi).symm)
      have cB := wb_congr (f := m.2.1 1) (g := xA s (a 23)) (n := nt) (fun i hi => (j3 i hi).symm)
      have cE := we_congr (f := m.2.1 1) (g := xA s (a 23)) (n := nt) (fun i hi => (j3 i hi).symm)
      have cT : ∀ i, i < wc (xA s (a 23)) nt → tok (m.2.1 1) nt i = tok (xA s (a 23)) nt i := by
        intro i hi
        unfold tok
        rw [cB, cE]
        apply tk_congr
        intro k _ hk
        have := ((w_facts (xA s (a 23)) nt).1 i hi).2
        exact (j3 k (by omega)).symm
      -- the reference
      obtain ⟨xr, mr, er, dr⟩ := read61_eq (F := F) (m := sPut m 0 0) (e := n) (nt := nt) (dn := dn) hb.1 h8 hg hF hdn (by simp [sPut, upd]; exact i5.1.2) (by simp [sPut, upd]; exact j2)
      have em : (sPut m 0 0).2 = m.2 := rfl
      rw [em, cW, run_congr (t1 := tok (m.2.1 1) nt) (t2 := tok (xA s (a 23)) nt) _ _ _ (fun i _ hi => cT i (by omega))] at dr
      have f0 : FrB n m (sPut m 0 0) := FrB.put m 0 0 (by decide)
      -- the class
      obtain ⟨s1, e1, k1, T1⟩ := begin_eq (F := F) H j5 dn nt
      have p21 : a 21 = a 26 + 1 := L.1 0 (by decide)
      have p22 : a 22 = a 26 + 2 := L.1 1 (by decide)
      have p23 : a 23 = a 26 + 3 := L.1 2 (by decide)
      have p24 : a 24 = a 26 + 4 := L.1 3 (by decide)
      have p25 : a 25 = a 26 + 5 := L.1 4 (by decide)
      have W1 : WoAt s1 (a 26 + 1) (a 26 + 2) (a 26 + 3) (a 26 + 4) (a 26 + 5) nt := by
        have := (I.wk k1).2.1
        rw [p21, p22, p23, p24, p25] at this
        exact this
      have a23 : xA s1 (a 26 + 3) = xA s (a 23) := by rw [← p23]; exact (I.wk k1).2.2
      have hW4 := wc_400 (g := xA s (a 23)) h8
      obtain ⟨s3, e3, o3, y3⟩ := firstWrong_loop (F := F) (nt := nt) (by omega) ap (wc (xA s (a 23)) nt) 0 401 s1 (E0 dn nt, 0, 0, 0, 0, []) (by rw [a23]; omega) (by omega) T1 (E0_wf hdn) W1 (by rw [a23]; exact j4)
      rw [a23] at e3 y3
      have k3 := k1.ow (by omega) o3
      have H3 := H.wk L k3
      obtain ⟨R3, W3, a33⟩ := I.wk k3
      have t03 : xT s3 (a 0) = 12 := H3.t 0
      have r03 : xR s3 (a 0) 2 = some (a 26) := H3.r 0 2
      have t263 : xT s3 (a 26) = 2 := H3.t 26
      have gA : xIs s (a 0) 11 = some () := by simp [xIs, t0]
      have gB : xGetA s (a 0) 11 3 = some (a 34) := by simp [xGetA, t0, r0_3, xpT, xpL, xpI, xpR, xpA, xpJ, xpO, xpZ, xInt, xN]
      have gC : xGetA s (a 0) 11 2 = some (a 26) := by simp [xGetA, t0, r0_2, xpT, xpL, xpI, xpR, xpA, xpJ, xpO, xpZ, xInt, xN]
      have gG : xIs s (a 34) 9 = some () := by simp [xIs, t34]
      have fwq : ∀ r, X_TextReader_firstWrong_7 F 401 s1 (a 34) (nI 0) = some (r, s3) → X_TextReader_firstWrong F s (a 34) (a 26) = some (r, s3) := fun r h => by
        unfold X_TextReader_firstWrong
        simp only [gG, Option.bind_some, e1]
        exact h
      have gE : xGetA s3 (a 0) 11 2 = some (a 26) := by simp [xGetA, t03, r03, xpT, xpL, xpI, xpR, xpA, xpJ, xpO, xpZ, xInt, xN]
      have gF : xIs s3 (a 26) 1 = some () := by simp [xIs, t263]
      rcases dr with ⟨j, q1, q2, q3, q4, q5⟩ | ⟨m1, E2, nw2, q1, q2, q3, q4, q5, q6, q7, q8, q9⟩
      · -- a wrong word
        rw [q2] at e3
        have e3' := fwq (nI j) e3
        have hj4 := wc_400 (g := (sPut m 0 0).2.1 1) h8
        have hj : ¬ nI j = -1 := nI_ne_m1 (by omega)
        obtain ⟨s4, e4, I4⟩ := cleared (F := F) H3 L R3 W3.1 (f0.trans q4) q5
        refine ⟨xr, s4, mr, a, n, rc, Es, 0, ?_, by rw [tN1 hb]; exact er, I4, rfl⟩
        unfold X_LT_read
        simp only [gA, Option.bind_some, tX1 hb, show ¬ (1 : Int32) = 0 by decide, if_false, gB, gC, gG, e3', hj, gE, gF, e4, q3]
      · -- the edition is kept
        rw [q1] at e3
        have e3' := fwq (-1) e3
        obtain ⟨T3, w3, -⟩ := y3 _ q1
        have fw := (run_fw _ _ _ _ (E0_fw dn nt) q1).1
        rw [Nat.zero_add] at fw
        have hZ : xZ s3 = xZ s + E2.1 4 := T3.1.2.2.2.2.2.1
        obtain ⟨Z, hZ3⟩ : ∃ Z, Z = xZ s3 := ⟨_, rfl⟩
        have hy : ∀ r, Dm n rc r → a r < xZ s := H.2.2.2.2.2.2.2.2.2.1
        have l0 : a 0 < Z := by have := hy 0 (Or.inl (by decide)); omega
        have n026 : a 0 ≠ a 26 := H.ne
        obtain ⟨s4, hs4⟩ : ∃ q, q = ((xT s3, xL s3, xUp (xI s3) (a 26) 5 (nI dn), xR s3, xA s3, xJ s3, xO s3, xZ s3) : XS) := ⟨_, rfl⟩
        have ePut : xPutI s3 (a 26) 1 5 (nI dn) = some s4 := by rw [hs4]; simp [xPutI, t263, xpT, xpL, xpI, xpR, xpA, xpJ, xpO, xpZ, xInt, xN]
        have H4 : Sh s4 a n rc := H3.keep (by rw [hs4]) (by rw [hs4]) (by rw [hs4]) (by rw [hs4]) (by rw [hs4])
        have h41 : xI s4 (a 0) 1 = nI n := by
          rw [hs4]
          show xUp (xI s3) (a 26) 5 (nI dn) (a 0) 1 = _
          rw [xUp_ne _ _ _ n026]; exact R3.2.2.2.1.1.1
        have ek := keep_eq (F := F) H4 h41 hb.1 (z := a 26) (H4.t 26)
        have gH : xIs s4 (a 0) 11 = some () := by
          have : xT s4 (a 0) = 12 := H4.t 0
          simp [xIs, this]
        obtain ⟨s5, hs5⟩ : ∃ q, q = ((xT s4, xL s4, xUp (xI s4) (a 0) 1 (nI (n + 1)), xR s4, xA s4, xJ s4, xUp (xO s4) (a 1) n (some (a 26)), xZ s4) : XS) := ⟨_, rfl⟩
        rw [← hs5] at ek
        have z5 : xZ s5 = Z := by rw [hs5, hs4, hZ3]
        obtain ⟨s6, e6, o6, z6, D6, F6, C6, W6⟩ := ed_new (F := F) (s := s5)
        rw [z5] at e6 o6 z6 D6 F6 C6 W6
        obtain ⟨s7, hs7⟩ : ∃ q, q = ((xT s6, xL s6, xI s6, xUp (xR s6) (a 0) 2 (some Z), xA s6, xJ s6, xO s6, xZ s6) : XS) := ⟨_, rfl⟩
        have t06 : xT s6 (a 0) = 12 := by rw [(o6 _ l0).1, hs5, hs4]; exact t03
        have e7 : xPutR s6 (a 0) 11 2 Z = some s7 := by rw [hs7]; simp [xPutR, t06, xpT, xpL, xpI, xpR, xpA, xpJ, xpO, xpZ, xInt, xN]
        have N : Nw s3 s7 (a 0) (a 1) n (a 26) dn Z := by
          intro c hc
          obtain ⟨x1, x2, x3, x4, x5, x6, x7⟩ := o6 c hc
          refine ⟨?_, ?_, fun k => ?_, fun k => ?_, ?_, ?_, fun k => ?_⟩
          · rw [hs7]; show xT s6 c = _; rw [x1, hs5, hs4]
          · rw [hs7]; show xL s6 c = _; rw [x2, hs5, hs4]
          · rw [hs7]; show xI s6 c k = _; rw [x3, hs5, hs4]
            show xUp (xUp (xI s3) (a 26) 5 (nI dn)) (a 0) 1 (nI (n + 1)) c k = _
            unfold xUp
            by_cases c1 : c = a 0
            · subst c1
              by_cases c2 : k = 1
              · simp [c2]
              · simp [c2, n026]
            · by_cases c2 : c = a 26
              · subst c2
                by_cases c3 : k = 5 <;> simp [c1, c3]
              · simp [c1, c2]
          · rw [hs7]
            show xUp (xR s6) (a 0) 2 (some Z) c k = _
            have : xR s6 c k = xR s3 c k := by rw [x4, hs5, hs4]
            unfold xUp
            by_cases c1 : c = a 0
            · by_cases c2 : k = 2
              · simp [c1, c2]
              · rw [if_pos c1, if_neg c2, if_neg (fun q => c2 q.2)]; exact this
            · rw [if_neg c1, if_neg (fun q => c1 q.1)]; exact this
          · rw [hs7]; show xA s6 c = _; rw [x5, hs5, hs4]
          · rw [hs7]; show xJ s6 c = _; rw [x6, hs5, hs4]
          · rw [hs7]; show xO s6 c k = _; rw [x7, hs5, hs4]
            show xUp (xO s3) (a 1) n (some (a 26)) c k = _
            unfold xUp
            by_cases c1 : c = a 1 <;> by_cases c2 : k = n <;> simp [c1, c2]
        have R7 : ∀ j, xR s7 (Z + j) = xR s6 (Z + j) := fun j => by
          rw [hs7]
          exact xUp_ne _ _ _ (by omega)
        have D7 : DrN s7 Z := ⟨fun j hj => by rw [hs7]; exact D6 j hj, fun j k q hq => by rw [R7]; exact F6 j k q hq⟩
        have W7 : WoAt s7 (Z + 1) (Z + 2) (Z + 3) (Z + 4) (Z + 5) 0 := by
          unfold WoAt WoSh at W6 ⊢
          rw [R7 1, R7 2, hs7]
          exact W6
        have C7 : xI s7 Z 4 = 0 ∧ xI s7 (Z + 6) 2 = 0 ∧ xI s7 (Z + 9) 2 = 0 := by rw [hs7]; exact C6
        have z7 : xZ s7 = Z + 13 := by rw [hs7]; exact z6
        rw [em] at q5 q6 q7 q8
        rw [← a33] at w3 fw cW cB cE cT j3
        have I7 := inv_new H3 L hy R3 W3 hb.1 T3 (by rw [hZ3]; exact hZ) N D7 W7 C7 z7 (f0.trans q3) q4 (tk2 := tok (m.2.1 1) nt) (by rw [← cW]; exact q5) w3 fw (by
            intro i hi
            have := q7 i (by rw [cW]; exact hi)
            rw [cB, cE] at this
            refine ⟨this.1, this.2.1, ?_⟩
            rw [this.2.2]
            have h9 := cT i hi
            unfold tok at h9
            rw [cB, cE] at h9
            exact h9) (fun i hi => by rw [q8 i hi]; exact (j3 i hi).symm)
        have l26 : a 26 < Z := by have := hy 26 (Or.inl (by decide)); omega
        have t7z : xT s7 (a 26) = 2 := by rw [(N _ l26).1]; exact t263
        have i7z : xI s7 (a 26) 4 = nI (E2.1 4) := by rw [(N _ l26).2.2.1, if_neg (fun q => n026 q.1.symm), if_neg (fun q => absurd q.2 (by decide))]; exact T3.2.1.1.2
        have gI : xGetI s7 (a 26) 1 4 = some (nI (E2.1 4)) := by simp [xGetI, t7z, i7z, xpT, xpL, xpI, xpR, xpA, xpJ, xpO, xpZ, xInt, xN]
        refine ⟨xr, s7, mr, aN a n (xZ s) Z, n + 1, rcN rc n (E2.1 4), EsN Es n E2, 0, ?_, by rw [tN1 hb]; exact er, ?_, aN_o (by decide) (by decide)⟩
        · unfold X_LT_read
          simp only [gA, Option.bind_some, tX1 hb, show ¬ (1 : Int32) = 0 by decide, if_false, gB, gC, gG, e3', eq_self, if_true, gE, ePut, gH, ek, z5, e6, e7, gI, q2]
        · rw [q9]
          have h3 : m1.1 3 = (sPut m 0 0).1 3 := q3.1.1 3 (by decide)
          rw [← h3]
          exact I7
    · refine ⟨-1000, s, sPut m 0 0, a, n, rc, Es, nt, ?_, tN2 hb, I.code 0, rfl⟩
      simp [X_LT_read, xIs, t0, tX2 hb]
end READINV
