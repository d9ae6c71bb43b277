def Eqc (s s2 : XS) (c : Nat) : Prop := xT s2 c = xT s c ∧ xL s2 c = xL s c ∧ xI s2 c = xI s c ∧ xR s2 c = xR s c ∧ xA s2 c = xA s c ∧ xJ s2 c = xJ s c ∧ xO s2 c = xO s c
theorem WoAt.eqs {s s2 : XS} {w b r p q nt : Nat} (h : WoAt s w b r p q nt) (hw : Eqc s s2 w) (hb : Eqc s s2 b) (hr : Eqc s s2 r) (hp : Eqc s s2 p) (hq : Eqc s s2 q) : WoAt s2 w b r p q nt := by
  obtain ⟨a1, a2, a3, a4, a5, -, -⟩ := hw
  obtain ⟨b1, b2, b3, b4, b5, -, -⟩ := hb
  obtain ⟨c1, c2, c3, c4, c5, -, -⟩ := hr
  obtain ⟨d1, d2, d3, d4, d5, -, -⟩ := hp
  obtain ⟨e1, e2, e3, e4, e5, -, -⟩ := hq
  unfold WoAt WoSh at h ⊢
  rw [a1, a3, a4, b1, b3, b4, c1, c2, c5, d1, d2, d5, e1, e2, e5]
  exact h
theorem Nw.eq {s3 s6 : XS} {a0 a1 n z dn Z c : Nat} (N : Nw s3 s6 a0 a1 n z dn Z) (hc : c < Z) (h0 : c ≠ a0) (h1 : c ≠ a1) (h2 : c ≠ z) : Eqc s3 s6 c := by
  obtain ⟨q1, q2, q3, q4, q5, q6, q7⟩ := N c hc
  refine ⟨q1, q2, funext fun k => ?_, funext fun k => ?_, q5, q6, funext fun k => ?_⟩
  · rw [q3 k, if_neg (fun q => h0 q.1), if_neg (fun q => h2 q.1)]
  · rw [q4 k, if_neg (fun q => h0 q.1)]
  · rw [q7 k, if_neg (fun q => h1 q.1)]
theorem CE0.ce {s s2 : XS} {f f2 : Nat → Nat} {E : Ed} (h : CE0 s f E) (hd : xI s2 (f2 0) 5 = nI (E.1 0)) (h4 : xI s2 (f2 0) 4 = xI s (f 0) 4) (hI : ∀ j, 1 ≤ j → j < 13 + E.1 4 → xI s2 (f2 j) = xI s (f j)) (hA : ∀ j, j < 13 → xA s2 (f2 j) = xA s (f j)) : CE s2 f2 E := by
  obtain ⟨c1, c2, c3, c4⟩ := h
  unfold CE
  rw [hI 6 (by omega) (by omega), hI 9 (by omega) (by omega), hA 7 (by omega), hA 8 (by omega), hA 10 (by omega), hA 11 (by omega)]
  refine ⟨⟨hd, by rw [h4]; exact c1.2⟩, c2, c3, fun k hk => ?_⟩
  rw [hI (13 + k) (by omega) (by omega)]
  exact c4 k hk
theorem NE.st4 {m : MS} {e n : Nat} {E : Ed} (h : NE m e E) (he : e ≠ n) (x y : Int32) : NE (sPut (sStI m 4 n x) 3 y) e E := by
  have e2 : (sPut (sStI m 4 n x) 3 y).2 = (sStI m 4 n x).2 := rfl
  unfold NE at h ⊢
  rw [e2, sSt_n _ _ _ _ he, sSt_o _ _ _ _ (show 13 ≠ 4 by decide), sSt_o _ _ _ _ (show 10 ≠ 4 by decide), sSt_o _ _ _ _ (show 19 ≠ 4 by decide), sSt_o _ _ _ _ (show 20 ≠ 4 by decide), sSt_o _ _ _ _ (show 11 ≠ 4 by decide), sSt_o _ _ _ _ (show 12 ≠ 4 by decide), sSt_o _ _ _ _ (show 17 ≠ 4 by decide), sSt_o _ _ _ _ (show 14 ≠ 4 by decide), sSt_o _ _ _ _ (show 18 ≠ 4 by decide), sSt_o _ _ _ _ (show 15 ≠ 4 by decide), sSt_o _ _ _ _ (show 16 ≠ 4 by decide)]
  exact h
def EsN (Es : Nat → Ed) (n : Nat) (E : Ed) (e : Nat) : Ed := if e = n then E else Es e
theorem EsN_n (Es : Nat → Ed) (n : Nat) (E : Ed) : EsN Es n E n = E := by simp [EsN]
theorem EsN_o (Es : Nat → Ed) (E : Ed) {n e : Nat} (h : e < n) : EsN Es n E e = Es e := by
  have : ¬ e = n := by omega
  simp [EsN, this]
section INVNEW
variable {s3 s6 : XS} {a : Nat → Nat} {m m1 : MS} {n : Nat} {rc : Nat → Nat} {Es : Nat → Ed} {nt : Nat} {v : Nat → Nat} {B : Nat} {yy Z nw2 dn : Nat} {E2 : Ed} {tk2 : Nat → Int32}
theorem inv_new (H : Sh s3 a n rc) (L : Lay a) (hy : ∀ r, Dm n rc r → a r < yy) (I : InvR s3 a m n rc Es v B) (W3 : WoAt s3 (a 21) (a 22) (a 23) (a 24) (a 25) nt) (hn : n < 6) (T : TR s3 (a 26) (a 34) yy (E2, 0, 0, 0, nw2, [])) (hZ : Z = yy + E2.1 4) (N : Nw s3 s6 (a 0) (a 1) n (a 26) dn Z) (D : DrN s6 Z) (W : WoAt s6 (Z + 1) (Z + 2) (Z + 3) (Z + 4) (Z + 5) 0) (hc : xI s6 Z 4 = 0 ∧ xI s6 (Z + 6) 2 = 0 ∧ xI s6 (Z + 9) 2 = 0) (hz6 : xZ s6 = Z + 13) (fB : FrB n m m1) (h2 : m1.1 2 = 0)
    (hNI : NI m1 n (wc (xA s3 (a 23)) nt) tk2 E2 (wc (xA s3 (a 23)) nt)) (hwf : WFS (E2, 0, 0, 0, nw2, []) (wc (xA s3 (a 23)) nt)) (hfw : FW dn nt (E2, 0, 0, 0, nw2, []) (wc (xA s3 (a 23)) nt)) (hwr : Wrd m1 (xA s3 (a 23)) n nt (wc (xA s3 (a 23)) nt)) (hby : ∀ i, i < nt → m1.2.1 5 (800 * n + i) = xA s3 (a 23) i) :
    Inv s6 (aN a n yy Z) (sPut (sStI m1 4 n (nI dn)) 3 (m1.1 3 + 1)) (n + 1) (rcN rc n (E2.1 4)) (EsN Es n E2) 0 v B := by
  obtain ⟨i2, i3, i4, i5, i6, i7⟩ := id I
  obtain ⟨T1, T2, T3, T4⟩ := id T
  simp only at T1 T2 T3 T4
  have H6 := sh_new H L hn hy T1 hZ N D hz6
  have lay := T1.2.2.2.2.2.2
  have lr : ∀ r, r < 38 → a r < Z := fun r h => by have := hy r (Or.inl h); omega
  have le : ∀ e j, e < n → j < 13 + rc e → a (eR e j) < Z := fun e j h1 h2 => by have := hy _ (Or.inr ⟨e, j, h1, h2, rfl⟩); omega
  have q6 : ∀ r, r < 38 → r ≠ 0 → r ≠ 1 → r ≠ 26 → Eqc s3 s6 (a r) := fun r hr h0 h1 h2 => N.eq (lr r hr) (H.ne hr (by decide) h0) (H.ne hr (by decide) h1) (H.ne hr (by decide) h2)
  have qe : ∀ e j, e < n → j < 13 + rc e → Eqc s3 s6 (a (eR e j)) := fun e j he hj => N.eq (le e j he hj) (H.neE he hj (by decide)) (H.neE he hj (by decide)) (H.neE he hj (by decide))
  have e21 : aN a n yy Z 21 = Z + 1 := aN_d (j := 1) (by decide)
  have e22 : aN a n yy Z 22 = Z + 2 := aN_d (j := 2) (by decide)
  have e23 : aN a n yy Z 23 = Z + 3 := aN_d (j := 3) (by decide)
  have e24 : aN a n yy Z 24 = Z + 4 := aN_d (j := 4) (by decide)
  have e25 : aN a n yy Z 25 = Z + 5 := aN_d (j := 5) (by decide)
  have e26 : aN a n yy Z 26 = Z := aN_d (j := 0) (by decide)
  have ao : ∀ r, r < 21 → aN a n yy Z r = a r := fun r h => aN_o (Or.inl h) (by omega)
  obtain ⟨mm, hmm⟩ : ∃ x, x = sPut (sStI m1 4 n (nI dn)) 3 (m1.1 3 + 1) := ⟨_, rfl⟩
  have m1s : ∀ k, k ≠ 3 → mm.1 k = m1.1 k := by intro k hk; rw [hmm]; simp [sPut, sStI, upd, hk]
  have m2s : ∀ k, k ≠ 4 → mm.2.1 k = m1.2.1 k := by intro k hk; rw [hmm]; exact sSt_o _ _ _ _ hk
  have m3s : mm.2.2 = m1.2.2 := by rw [hmm]; rfl
  have hm3 : m1.1 3 = nI n := by rw [fB.1.1 3 (by decide)]; exact i5.1.2
  obtain ⟨N1, N2, N3, N4, N5⟩ := hNI
  have hW4 := N1.2.2.2.1
  have hWE : WE E2 := by
    obtain ⟨b1, ⟨-, b2, -⟩ | b2⟩ := hwf
    · simp only [List.length_nil] at b1
      exact ⟨b2.1, by omega, b2.2.1, b2.2.2.1, b2.2.2.2.1, b2.2.2.2.2.1, b2.2.2.2.2.2⟩
    · have := b2.1; simp at this
  have q3 : xA s6 (a 23) = xA s3 (a 23) := (q6 23 (by decide) (by decide) (by decide) (by decide)).2.2.2.2.1
  have LN : Lay (aN a n yy Z) := by
    refine ⟨fun j hj => ?_, fun j hj => ?_, fun j hj => ?_⟩
    · have : 21 + j = dr (1 + j) := by unfold dr; rw [if_neg (by omega), if_pos (by omega)]; omega
      rw [this, aN_d (by omega), e26]
    · have : 27 + j = dr (6 + j) := by unfold dr; rw [if_neg (by omega), if_neg (by omega)]; omega
      rw [this, aN_d (by omega), e26]
    · rw [aN_o (Or.inr (by omega)) (by omega), aN_o (Or.inr (by omega)) (by omega)]; exact L.2.2 j hj
  rw [← hmm]
  refine ⟨H6, ⟨?_, ?_, fun i hi => by omega, fun i hi => by omega, LN, ?_, ?_, ?_⟩, ?_, ?_, ?_, ⟨⟨?_, ?_⟩, fun e he => ?_⟩, ?_, fun e he => ?_⟩
  · rw [e21, e22, e23, e24, e25]; exact W
  · rw [m1s 2 (by decide), h2]; rfl
  · rw [e26]; exact hc.1
  · rw [show aN a n yy Z 27 = Z + 6 from aN_d (j := 6) (by decide)]; exact hc.2.1
  · rw [show aN a n yy Z 30 = Z + 9 from aN_d (j := 9) (by decide)]; exact hc.2.2
  · unfold SimF
    rw [ao 3 (by decide), ao 4 (by decide), (q6 3 (by decide) (by decide) (by decide) (by decide)).2.2.2.2.2.1, (q6 4 (by decide) (by decide) (by decide) (by decide)).2.2.2.2.1, m3s, m2s 28 (by decide), fB.1.2.2 27 (by decide), fB.1.2.1 28 (by decide)]
    exact i2
  · unfold SimH
    rw [ao 20 (by decide), (q6 20 (by decide) (by decide) (by decide) (by decide)).2.2.2.2.2.1, m3s, fB.1.2.2 38 (by decide)]
    exact i3
  · unfold SimW
    rw [ao 17 (by decide), ao 18 (by decide), (q6 17 (by decide) (by decide) (by decide) (by decide)).2.2.1, (q6 18 (by decide) (by decide) (by decide) (by decide)).2.2.2.2.1, m1s 37 (by decide), m2s 36 (by decide), fB.1.1 37 (by decide), fB.1.2.1 36 (by decide)]
    exact i4
  · rw [ao 0 (by decide), (N _ (lr 0 (by decide))).2.2.1, if_pos ⟨rfl, rfl⟩]
  · rw [hmm]
    simp [sPut, upd, hm3, nI_1]
  · by_cases c : e = n
    · subst c
      rw [EsN_n, rcN_n]
      have hd : E2.1 0 = dn := hfw.1
      have n0 : a 26 ≠ a 0 := H.ne
      have l26 := lr 26 (by decide)
      have f0 : aN a e yy Z (eR e 0) = a 26 := aN_n (by decide)
      have fq : ∀ j, 1 ≤ j → j < 13 + E2.1 4 → Eqc s3 s6 (fe (a 26) yy j) := by
        intro j h1 hj
        have h12 := hWE.2.2.2.1
        by_cases c : j < 13
        · have := tg_dr j c
          have hne : dr j ≠ 26 := by unfold dr; rw [if_neg (by omega)]; split <;> omega
          rw [fe_lo c, ← L.dw c]
          exact q6 (dr j) this.2.2.1 (by omega) (by omega) hne
        · obtain ⟨k, rfl⟩ : ∃ k, j = 13 + k := ⟨j - 13, by omega⟩
          rw [fe_r]
          have g0 := hy 0 (Or.inl (by decide))
          have g1 := hy 1 (Or.inl (by decide))
          have g2 := hy 26 (Or.inl (by decide))
          exact N.eq (by omega) (by omega) (by omega) (by omega)
      refine ⟨T2.ce ?_ ?_ (fun j h1 hj => ?_) (fun j hj => ?_), ?_, hWE, rfl⟩
      · simp only [f0]
        rw [(N _ l26).2.2.1, if_neg (fun q => n0 q.1), if_pos ⟨rfl, rfl⟩, hd]
      · simp only [f0]
        rw [(N _ l26).2.2.1, if_neg (fun q => n0 q.1), if_neg (fun q => absurd q.2 (by decide))]
        rfl
      · have h12 := hWE.2.2.2.1
        simp only [aN_n (a := a) (n := e) (yy := yy) (Z := Z) (show j < 100 by omega)]
        exact (fq j h1 hj).2.2.1
      · simp only [aN_n (a := a) (n := e) (yy := yy) (Z := Z) (show j < 100 by omega)]
        by_cases c : j = 0
        · subst c; exact (N _ l26).2.2.2.2.1
        · exact (fq j (by omega) (by omega)).2.2.2.2.1
      · refine ⟨⟨?_, ?_, ?_⟩, ?_, ?_, ?_⟩
        · rw [hmm, hd]; exact sSt_e _ _ _ _
        · rw [m2s 13 (by decide)]; exact N3
        · rw [m2s 10 (by decide)]; exact N1.2.2.2.2.2
        · rw [m2s 19 (by decide), m2s 20 (by decide)]; exact N2.2.2.2
        · rw [m2s 11 (by decide), m2s 12 (by decide)]; exact N4
        · rw [m2s 17 (by decide), m2s 14 (by decide), m2s 18 (by decide), m2s 15 (by decide), m2s 16 (by decide)]; exact N5
    · have he' : e < n := by omega
      obtain ⟨p1, p2, p3, p4⟩ := i5.2 e he'
      rw [EsN_o Es E2 he', rcN_o he']
      have h12 := p3.2.2.2.1
      refine ⟨p1.to (fun j hj => ?_) (fun j hj => ?_), ?_, p3, p4⟩
      · simp only [aN_e (a := a) (yy := yy) (Z := Z) he' (show j < 100 by omega)]
        exact (qe e j he' (by omega)).2.2.1
      · simp only [aN_e (a := a) (yy := yy) (Z := Z) he' (show j < 100 by omega)]
        exact (qe e j he' (by omega)).2.2.2.2.1
      · rw [hmm]
        exact (p2.frB p3 he' fB).st4 c _ _
  · obtain ⟨q, f, l1, l2, l3, l4⟩ := i6
    have ec : lc2 (EsN Es n E2) q = lc2 Es q ∧ lwd (EsN Es n E2) q = lwd Es q := by
      cases q with
      | none => exact ⟨rfl, rfl⟩
      | some e =>
        have := l2 e rfl
        simp only [lc2, lwd, EsN_o Es E2 this]
        exact ⟨trivial, trivial⟩
    refine ⟨q, f, ?_, fun e h => by have := l2 e h; omega, ?_, ?_⟩
    · rw [m1s 29 (by decide), fB.1.1 29 (by decide)]; exact l1
    · rw [ec.1]
      unfold FiAt at l3 ⊢
      rw [ao 7 (by decide), ao 8 (by decide), ao 9 (by decide), ao 10 (by decide), ao 11 (by decide), (q6 7 (by decide) (by decide) (by decide) (by decide)).2.2.1, (q6 8 (by decide) (by decide) (by decide) (by decide)).2.2.2.2.1, (q6 9 (by decide) (by decide) (by decide) (by decide)).2.2.2.2.1, (q6 10 (by decide) (by decide) (by decide) (by decide)).2.2.2.2.1, (q6 11 (by decide) (by decide) (by decide) (by decide)).2.2.2.2.1]
      exact l3
    · rw [ec.1, ec.2, m2s 30 (by decide), m2s 31 (by decide), m2s 32 (by decide), fB.1.2.1 30 (by decide), fB.1.2.1 31 (by decide), fB.1.2.1 32 (by decide)]
      exact l4
  · by_cases c : e = n
    · subst c
      have f1 : aN a e yy Z (eR e 1) = a 21 := (aN_n (by decide)).trans (L.dw (j := 1) (by decide)).symm
      have f2 : aN a e yy Z (eR e 2) = a 22 := (aN_n (by decide)).trans (L.dw (j := 2) (by decide)).symm
      have f3 : aN a e yy Z (eR e 3) = a 23 := (aN_n (by decide)).trans (L.dw (j := 3) (by decide)).symm
      have f4 : aN a e yy Z (eR e 4) = a 24 := (aN_n (by decide)).trans (L.dw (j := 4) (by decide)).symm
      have f5 : aN a e yy Z (eR e 5) = a 25 := (aN_n (by decide)).trans (L.dw (j := 5) (by decide)).symm
      have hnt : E2.1 1 = nt := hfw.2.1
      rw [EsN_n]
      unfold WdE
      simp only [f1, f2, f3, f4, f5, hnt, q3]
      refine ⟨W3.eqs (q6 21 (by decide) (by decide) (by decide) (by decide)) (q6 22 (by decide) (by decide) (by decide) (by decide)) (q6 23 (by decide) (by decide) (by decide) (by decide)) (q6 24 (by decide) (by decide) (by decide) (by decide)) (q6 25 (by decide) (by decide) (by decide) (by decide)), fun i hi => ?_, fun i hi => ?_, ?_⟩
      · rw [m2s 5 (by decide)]; exact (hby i hi).symm
      · rw [m2s 6 (by decide), m2s 7 (by decide)]
        exact ⟨(hwr i hi).1, (hwr i hi).2.1⟩
      · exact hfw.2.2.1 (by simp)
    · have he' : e < n := by omega
      have hw := (i7 e he').frB he' fB
      rw [EsN_o Es E2 he']
      have f1 : aN a n yy Z (eR e 1) = a (eR e 1) := aN_e he' (by decide)
      have f2 : aN a n yy Z (eR e 2) = a (eR e 2) := aN_e he' (by decide)
      have f3 : aN a n yy Z (eR e 3) = a (eR e 3) := aN_e he' (by decide)
      have f4 : aN a n yy Z (eR e 4) = a (eR e 4) := aN_e he' (by decide)
      have f5 : aN a n yy Z (eR e 5) = a (eR e 5) := aN_e he' (by decide)
      have p3 : xA s6 (a (eR e 3)) = xA s3 (a (eR e 3)) := (qe e 3 he' (by omega)).2.2.2.2.1
      unfold WdE at hw ⊢
      simp only [f1, f2, f3, f4, f5, p3] at hw ⊢
      obtain ⟨g1, g2, g3, g4⟩ := hw
      refine ⟨g1.eqs (qe e 1 he' (by omega)) (qe e 2 he' (by omega)) (qe e 3 he' (by omega)) (qe e 4 he' (by omega)) (qe e 5 he' (by omega)), ?_, ?_, g4⟩
      · rw [m2s 5 (by decide)]; exact g2
      · rw [m2s 6 (by decide), m2s 7 (by decide)]; exact g3
end INVNEW
