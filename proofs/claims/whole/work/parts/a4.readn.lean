/-! THE REFERENCE's read -/
def lim2 (k : Nat) : Nat := if k = 4 then 1 else if k = 5 then 800 else if k = 6 ∨ k = 7 then 400 else lim k
def liB : List Nat := [0, 2, 21, 22, 23, 24]
def laB : List Nat := [5, 6, 7, 8, 9, 10, 11, 12, 13, 14, 15, 16, 17, 18, 19, 20, 25, 26]
def FrB (e : Nat) (m m2 : MS) : Prop := FrM m m2 liB laB [] ∧ ∀ k i, i < lim2 k * e → m2.2.1 k i = m.2.1 k i
theorem FrB.refl (e : Nat) (m : MS) : FrB e m m := ⟨FrM.refl m _ _ _, fun _ _ _ => rfl⟩
theorem FrB.trans {e : Nat} {m m2 m3 : MS} (h : FrB e m m2) (g : FrB e m2 m3) : FrB e m m3 := ⟨h.1.trans g.1, fun k i hi => (g.2 k i hi).trans (h.2 k i hi)⟩
theorem FrB.put {e : Nat} (m : MS) (k : Nat) (v : Int32) (hk : k ∈ liB) : FrB e m (sPut m k v) := ⟨(FrM.put m k v).mono (fun c q => by simp at q; rw [q]; exact hk) (by simp) (by simp), fun _ _ _ => rfl⟩
theorem FrI.b {e : Nat} {m m2 : MS} (h : FrI e m m2) : FrB e m m2 := by
  refine ⟨h.1.mono (fun c q => ?_) (fun c q => ?_) (fun c q => q), fun k i hi => ?_⟩
  · simp [liB] at q ⊢; omega
  · simp [laI] at q; simp [laB]; omega
  · by_cases c : k = 4 ∨ k = 5 ∨ k = 6 ∨ k = 7
    · rw [h.1.2.1 k (by simp [laI]; omega)]
    · have : lim2 k = lim k := by
        unfold lim2
        rw [if_neg (by omega), if_neg (by omega), if_neg (by omega)]
      rw [this] at hi
      exact h.2 k i hi
theorem FrP.b {e : Nat} {m m2 : MS} (h : FrP e m m2) : FrB e m m2 := by
  refine ⟨h.1.mono (fun c q => by simp at q) (fun c q => ?_) (fun c q => q), fun k i hi => ?_⟩
  · simp at q; simp [laB]; omega
  · by_cases c : k = 5 ∨ k = 6 ∨ k = 7
    · rcases c with c | c | c
      · subst c; exact h.2.2 i (by simpa [lim2] using hi)
      · subst c; exact (h.2.1 i (by simpa [lim2] using hi)).1
      · subst c; exact (h.2.1 i (by simpa [lim2] using hi)).2
    · by_cases c2 : k = 8 ∨ k = 9
      · rcases c2 with c2 | c2 <;> subst c2 <;> simp [lim2, lim] at hi
      · rw [h.1.2.1 k (by simp; omega)]
/-- the empty edition -/
def E0 (dn nt : Nat) : Ed := (fun j => if j = 0 then dn else if j = 1 then nt else 0, fun _ _ => 0)
theorem E0_wf {dn nt : Nat} (h : dn ≤ 100000) : WFS (E0 dn nt, 0, 0, 0, 0, []) 0 := by
  refine ⟨by simp [E0], Or.inl ⟨by simp, ⟨by simp [E0]; exact h, by simp [E0], by simp [E0], fun i hi => by simp [E0] at hi, fun t ht => by simp [E0] at ht, fun k hk => by simp [E0] at hk⟩, rfl, rfl, rfl, by simp [E0], fun q => by simp at q⟩⟩
theorem E0_fw (dn nt : Nat) : FW dn nt (E0 dn nt, 0, 0, 0, 0, []) 0 := ⟨by simp [E0], by simp [E0], fun _ k hk => by simp [E0] at hk, fun q => by simp at q⟩
def RdA (m : MS) (e nt dn : Nat) (x : Int32) (m2 : MS) (R : Nat ⊕ SA) : Prop :=
  (∃ j, j ≤ wc (m.2.1 1) nt ∧ R = .inl j ∧ x = -1 - nI j ∧ FrB e m m2 ∧ m2.1 2 = 0) ∨
  ∃ m1 E2 nw2, R = .inr (E2, 0, 0, 0, nw2, []) ∧ x = nI (E2.1 4) ∧ FrB e m m1 ∧ m1.1 2 = 0 ∧ NI m1 e (wc (m.2.1 1) nt) (tok (m.2.1 1) nt) E2 (wc (m.2.1 1) nt) ∧ WFS (E2, 0, 0, 0, nw2, []) (wc (m.2.1 1) nt) ∧ Wrd m1 (m.2.1 1) e nt (wc (m.2.1 1) nt) ∧ (∀ i, i < nt → m1.2.1 5 (800 * e + i) = m.2.1 1 i) ∧ m2 = sPut (sStI m1 4 e (nI dn)) 3 (m.1 3 + 1)
theorem wc_400 {g : Nat → Int32} {n : Nat} (h : n ≤ 800) : wc g n ≤ 400 := by
  obtain ⟨h1, h2⟩ := wc_le g n
  cases hq : inW g n with
  | true => have := h1 hq; omega
  | false => have := h2 hq; omega
theorem tok_num (g : Nat → Int32) (n : Nat) {W : Nat} : ∀ i, i < W → 0 ≤ tok g n i → ∃ v : Nat, v < 1000000000 ∧ tok g n i = nI v := by
  intro i _ h
  obtain ⟨v, h1, -, h3⟩ := (tk_num g (wb g n i) (we g n i)).2 h
  exact ⟨v, h1, h3⟩
theorem read61_eq {F e nt dn : Nat} {m : MS} (he : e < 6) (h8 : nt ≤ 800) (hg : nrm (m.2.1 1) nt) (hF : 900 < F) (hd : dn ≤ 100000) (h3 : m.1 3 = nI e) (h2 : m.1 2 = nI nt) : ∃ x m2, N_Mo_read_61 F m (nI dn) = some (x, m2) ∧ RdA m e nt dn x m2 (run (tok (m.2.1 1) nt) (wc (m.2.1 1) nt) 0 (E0 dn nt, 0, 0, 0, 0, [])) := by
  have a1 : ¬ (nI e < 0 ∨ 6 ≤ (nI e).toNatClampNeg) := nI_in (by omega) (by decide)
  have a2 : (nI e).toNatClampNeg = e := nI_clamp (by omega)
  obtain ⟨m1, hm1⟩ : ∃ x, x = sPut m 22 (nI e) := ⟨_, rfl⟩
  have b1 : m1.2 = m.2 := by rw [hm1]; rfl
  obtain ⟨m2, x2, f2, y2, y3, y4⟩ := split_eq (F := F) (m := m1) (e := e) (nt := nt) he h8 (by rw [b1]; exact hg) hF (by rw [hm1]; simp [sPut, upd]) (by rw [hm1]; simp [sPut, upd]; exact h2)
  rw [b1] at y2 y3 y4
  obtain ⟨m3, hm3⟩ : ∃ x, x = sPut (sPut (sPut (sPut m2 2 0) 23 0) 24 (-1)) 21 0 := ⟨_, rfl⟩
  obtain ⟨m4, hm4⟩ : ∃ x, x = sStI m3 10 e 0 := ⟨_, rfl⟩
  obtain ⟨m5, hm5⟩ : ∃ x, x = sStI m4 13 e 0 := ⟨_, rfl⟩
  have g1 : FrB e m m1 := by rw [hm1]; exact FrB.put _ _ _ (by decide)
  have g3 : FrB e m2 m3 := by rw [hm3]; exact ((((FrB.put _ _ _ (by decide)).trans (FrB.put _ _ _ (by decide))).trans (FrB.put _ _ _ (by decide))).trans (FrB.put _ _ _ (by decide)))
  have g4 : FrB e m3 m4 := by rw [hm4]; exact (FrI.st _ _ _ _ (by decide) (by simp [lim])).b
  have g5 : FrB e m4 m5 := by rw [hm5]; exact (FrI.st _ _ _ _ (by decide) (by simp [lim])).b
  have gB := (((g1.trans f2.b).trans g3).trans g4).trans g5
  have i2 : m2.1 22 = nI e := by rw [f2.1.1 22 (by simp), hm1]; simp [sPut, upd]
  have i3 : m3.1 22 = nI e := by rw [hm3]; simp [sPut, upd]; exact i2
  have i4 : m4.1 = m3.1 := by rw [hm4]; rfl
  have i5 : m5.1 = m3.1 := by rw [hm5, ← i4]; rfl
  have b3 : m3.2 = m2.2 := by rw [hm3]; rfl
  have r5 : ∀ k, k ≠ 10 → k ≠ 13 → m5.2.1 k = m2.2.1 k := by
    intro k h1 h2
    rw [hm5, sSt_o _ _ _ _ h2, hm4, sSt_o _ _ _ _ h1, b3]
  have hW : wc (m.2.1 1) nt ≤ 400 := wc_400 h8
  have hNI : NI m5 e (wc (m.2.1 1) nt) (tok (m.2.1 1) nt) (E0 dn nt) 0 := by
    refine ⟨⟨by rw [i5]; exact i3, he, by rw [r5 9 (by decide) (by decide)]; exact y2, hW, fun i hi => ?_, ?_⟩, ⟨?_, ?_, ?_, fun i hi => by simp [E0] at hi⟩, ?_, fun t ht => by simp [E0] at ht, fun k hk => by simp [E0] at hk⟩
    · rw [r5 8 (by decide) (by decide)]; exact (y3 i hi).2.2
    · rw [hm5, sSt_o _ _ _ _ (by decide), hm4, sSt_e]; simp [E0, nI_0]
    · rw [i5, hm3]; simp [sPut, upd, E0, nI_0]
    · rw [i5, hm3]; simp [sPut, upd, nI_0]
    · rw [i5, hm3]; simp [sPut, upd]
    · rw [hm5, sSt_e]; simp [E0, nI_0]
  obtain ⟨x, m6, x6, y6⟩ := read_loop (F := F) (d := nI dn) (tok_num (m.2.1 1) nt) hF (wc (m.2.1 1) nt) 0 F m5 (E0 dn nt) 0 (by omega) (by omega) (by omega) hNI (E0_wf hd)
  rw [Nat.sub_zero] at y6
  refine ⟨x, m6, ?_, ?_⟩
  · unfold N_Mo_read_61
    rw [h3, Option.bind_some, ← hm1, x2, Option.bind_some, Option.bind_some, Option.bind_some, Option.bind_some, Option.bind_some, ← hm3, i3, if_neg a1, a2, ← hm4, Option.bind_some, i4, i3, if_neg a1, a2, ← hm5, Option.bind_some]
    exact x6
  · have e52 : m5.1 2 = 0 := by rw [i5, hm3]; simp [sPut, upd]
    rcases y6 with ⟨j, q1, q2, q3, q4⟩ | ⟨m7, E2, nw2, q1, q2, q3, q4, q5, q6⟩
    · exact Or.inl ⟨j, q1, q2, q3, gB.trans q4.b, by rw [q4.1.1 2 (by decide)]; exact e52⟩
    · have gB7 := gB.trans q3.b
      have r7 : ∀ k, k ∉ laI → k ≠ 10 → k ≠ 13 → m7.2.1 k = m2.2.1 k := fun k h1 h2 h3 => (q3.1.2.1 k h1).trans (r5 k h2 h3)
      refine Or.inr ⟨m7, E2, nw2, q1, q2, gB7, by rw [q3.1.1 2 (by decide)]; exact e52, q4, q5, ?_, ?_, ?_⟩
      · intro i hi
        rw [r7 6 (by decide) (by decide) (by decide), r7 7 (by decide) (by decide) (by decide), r7 8 (by decide) (by decide) (by decide)]
        exact y3 i hi
      · intro i hi
        rw [r7 5 (by decide) (by decide) (by decide)]
        exact y4 i hi
      · rw [q6, gB7.1.1 3 (by decide)]
/-- may a reading begin? -/
def mayB (n dn : Nat) (Es : Nat → Ed) : Prop := n < 6 ∧ (0 < n → (Es (n - 1)).1 0 < dn)
section MAY
variable {F : Nat} {s : XS} {a : Nat → Nat} {m : MS} {n : Nat} {Es : Nat → Ed} {rc : Nat → Nat} {dn : Nat}
theorem day_lt {i j : Nat} (hi : i ≤ 100000) (hj : j ≤ 100000) : (nI i < nI j ↔ i < j) ∧ (nI i ≤ nI j ↔ i ≤ j) := ⟨nI_ltI (by omega) (by omega), nI_leI (by omega) (by omega)⟩
theorem readN_bad {x : Int32} (h : x < 0 ∨ 100000 < x) : N_Mo_read F m x = some (-1000, sPut m 0 0) := by
  by_cases c : x < 0
  · simp [N_Mo_read, c]
  · have := h.resolve_left c
    simp [N_Mo_read, c, this]
theorem readX_bad {x : Int32} (H : Sh s a n rc) (h : x < 0 ∨ 100000 < x) : X_LT_read F s (a 0) x = some (-1000, s) := by
  have t0 : xT s (a 0) = 12 := H.t 0
  have r0_0 : xR s (a 0) 0 = some (a 1) := H.r 0 0
  have r0_2 : xR s (a 0) 2 = some (a 26) := H.r 0 2
  have r0_3 : xR s (a 0) 3 = some (a 34) := H.r 0 3
  have r0_4 : xR s (a 0) 4 = some (a 2) := H.r 0 4
  have r0_5 : xR s (a 0) 5 = some (a 5) := H.r 0 5
  have r0_6 : xR s (a 0) 6 = some (a 7) := H.r 0 6
  have r0_7 : xR s (a 0) 7 = some (a 12) := H.r 0 7
  have r0_8 : xR s (a 0) 8 = some (a 17) := H.r 0 8
  have r0_9 : xR s (a 0) 9 = some (a 19) := H.r 0 9
  have e : X_LT_mayBegin F s (a 0) x = some (0, s) := by
    by_cases c : x < 0
    · simp [X_LT_mayBegin, c]
    · have := h.resolve_left c
      simp [X_LT_mayBegin, c, this]
  simp [X_LT_read, xIs, t0, e]
theorem dn_ok (h : dn ≤ 100000) : ¬ nI dn < 0 ∧ ¬ (100000 : Int32) < nI dn := ⟨nI_pos (by omega), nI_nlt (a := 100000) (b := dn) h (by decide)⟩
theorem nI_lastn {n : Nat} (h : 0 < n) : nI n - 1 = nI (n - 1) := by
  obtain ⟨k, rfl⟩ : ∃ k, n = k + 1 := ⟨n - 1, by omega⟩
  rw [nI_pred]; rfl
theorem readN_top (hE : EN m n Es) (hd : dn ≤ 100000) : (mayB n dn Es → N_Mo_read F m (nI dn) = N_Mo_read_61 F (sPut m 0 0) (nI dn)) ∧ (¬ mayB n dn Es → N_Mo_read F m (nI dn) = some (-1000, sPut m 0 0)) := by
  obtain ⟨h3, h6, hE⟩ := hE
  obtain ⟨d1, d2⟩ := dn_ok hd
  have e3 : (sPut m 0 0).1 3 = nI n := by simp [sPut, upd]; exact h3
  have pre : N_Mo_read F m (nI dn) = if nI n = 6 then some ((-1000), sPut m 0 0) else if nI n ≤ 0 then N_Mo_read_61 F (sPut m 0 0) (nI dn) else if nI n ≤ 0 then N_Mo_read_53 F (sPut m 0 0) (nI dn) (nI dn) 0 else N_Mo_read_53 F (sPut m 0 0) (nI dn) (nI dn) (nI n - 1) := by
    unfold N_Mo_read
    rw [Option.bind_some, if_neg d1, if_neg d2, e3]
  rw [pre]
  have c6 : nI n = 6 ↔ n = 6 := nI_eq (a := n) (b := 6) (by omega) (by decide)
  by_cases h : n = 6
  · rw [if_pos (c6.mpr h)]
    exact ⟨fun q => absurd q.1 (by omega), fun _ => rfl⟩
  · rw [if_neg (fun q => h (c6.mp q))]
    by_cases h0 : n = 0
    · subst h0
      rw [if_pos (show nI 0 ≤ 0 by decide)]
      exact ⟨fun _ => rfl, fun q => absurd ⟨by omega, fun q => by omega⟩ q⟩
    · have c0 : ¬ nI n ≤ 0 := nI_nle (by omega) (by omega)
      rw [if_neg c0, if_neg c0, nI_lastn (by omega)]
      obtain ⟨q1, q2⟩ := hE (n - 1) (by omega)
      have a1 : ¬ (nI (n - 1) < 0 ∨ 6 ≤ (nI (n - 1)).toNatClampNeg) := nI_in (by omega) (by decide)
      have a2 : (nI (n - 1)).toNatClampNeg = n - 1 := nI_clamp (by omega)
      have e4 : (sPut m 0 0).2.1 4 (n - 1) = nI ((Es (n - 1)).1 0) := q1.1.1
      unfold N_Mo_read_53
      rw [if_neg a1, a2, e4]
      have hl := (day_lt (i := (Es (n - 1)).1 0) (j := dn) q2.1 hd).1
      by_cases c : (Es (n - 1)).1 0 < dn
      · rw [if_pos (hl.mpr c)]
        exact ⟨fun _ => rfl, fun q => absurd ⟨by omega, fun _ => c⟩ q⟩
      · rw [if_neg (fun q => c (hl.mp q))]
        exact ⟨fun q => absurd (q.2 (by omega)) c, fun _ => rfl⟩
theorem readX_top (H : Sh s a n rc) (hE : EB s a m n Es rc) (hd : dn ≤ 100000) : (mayB n dn Es → X_LT_mayBegin F s (a 0) (nI dn) = some (1, s)) ∧ (¬ mayB n dn Es → X_LT_mayBegin F s (a 0) (nI dn) = some (0, s)) := by
  have t0 : xT s (a 0) = 12 := H.t 0
  have r0_0 : xR s (a 0) 0 = some (a 1) := H.r 0 0
  have r0_2 : xR s (a 0) 2 = some (a 26) := H.r 0 2
  have r0_3 : xR s (a 0) 3 = some (a 34) := H.r 0 3
  have r0_4 : xR s (a 0) 4 = some (a 2) := H.r 0 4
  have r0_5 : xR s (a 0) 5 = some (a 5) := H.r 0 5
  have r0_6 : xR s (a 0) 6 = some (a 7) := H.r 0 6
  have r0_7 : xR s (a 0) 7 = some (a 12) := H.r 0 7
  have r0_8 : xR s (a 0) 8 = some (a 17) := H.r 0 8
  have r0_9 : xR s (a 0) 9 = some (a 19) := H.r 0 9
  have t1 : xT s (a 1) = 41 := H.t 1
  have l1 : xL s (a 1) = 6 := H.l 1
  obtain ⟨d1, d2⟩ := dn_ok hd
  have h6 : n ≤ 6 := H.2.2.2.2.2.2.2.2.1
  have hn := hE.1.1
  have e6 : Int32.ofNat 6 = nI 6 := rfl
  have c6 : nI n < nI 6 ↔ n < 6 := nI_ltI (by omega) (by decide)
  by_cases h : n < 6
  · have c6' := c6.mpr h
    by_cases h0 : n = 0
    · subst h0
      refine ⟨fun _ => ?_, fun q => absurd ⟨h, fun q => by omega⟩ q⟩
      simp [X_LT_mayBegin, d1, d2, xGetI, t0, hn, xGetA, r0_0, xLen, t1, l1, e6, c6', nI_0, xpT, xpL, xpI, xpR, xpA, xpJ, xpO, xpZ, xInt, xN]
      decide
    · have c0 : (0 : Int32) < nI n := nI_lt (a := 0) (by omega) (by omega)
      have a1 : ¬ nI (n - 1) < 0 := nI_pos (by omega)
      have a2 : (nI (n - 1)).toNatClampNeg = n - 1 := nI_clamp (by omega)
      have a3 : ¬ 6 ≤ n - 1 := by omega
      have ho := H.2.2.2.2.2.1 (n - 1) (by omega)
      have hte : xT s (a (eR (n - 1) 0)) = 2 := (H.2.2.1 (n - 1) 0 (by omega) (by omega)).1
      obtain ⟨q1, -, q2, -⟩ := hE.2 (n - 1) (by omega)
      have hday : xI s (a (eR (n - 1) 0)) 5 = nI ((Es (n - 1)).1 0) := q1.1.1
      have hl := (day_lt (i := dn) (j := (Es (n - 1)).1 0) hd q2.1).2
      have pre : X_LT_mayBegin F s (a 0) (nI dn) = if nI dn ≤ nI ((Es (n - 1)).1 0) then some (0, s) else some (1, s) := by
        simp [X_LT_mayBegin, d1, d2, xGetI, t0, hn, xGetA, r0_0, xLen, t1, l1, e6, c6', c0, nI_lastn (show 0 < n by omega), xLdO, a1, a2, a3, ho, hCase, hte, hday, xpT, xpL, xpI, xpR, xpA, xpJ, xpO, xpZ, xInt, xN]
      rw [pre]
      by_cases c : (Es (n - 1)).1 0 < dn
      · rw [if_neg (fun q => by have := hl.mp q; omega)]
        exact ⟨fun _ => rfl, fun q => absurd ⟨h, fun _ => c⟩ q⟩
      · rw [if_pos (hl.mpr (by omega))]
        exact ⟨fun q => absurd (q.2 (by omega)) c, fun _ => rfl⟩
  · have c6' : ¬ nI n < nI 6 := fun q => h (c6.mp q)
    refine ⟨fun q => absurd q.1 h, fun _ => ?_⟩
    simp [X_LT_mayBegin, d1, d2, xGetI, t0, hn, xGetA, r0_0, xLen, t1, l1, e6, c6', xpT, xpL, xpI, xpR, xpA, xpJ, xpO, xpZ, xInt, xN]
end MAY
