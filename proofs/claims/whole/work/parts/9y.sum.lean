section SUM
variable {F : Nat} {m : MS} {e W tc : Nat} {tok : Nat → Int32} {E : Ed} {w : Nat}
theorem rnkK_2 {k k0 : Nat} (h : 4 ≤ k ∧ k < 9) (h0 : 4 ≤ k0 ∧ k0 < 9) : rnkK k < rnkK k0 ↔ ¬ rnkK k = 2 ∧ rnkK k0 = 2 := by
  have a := rnk_op h
  have b := rnk_op h0
  omega
theorem wa_op {tc k v : Nat} {L : List (Nat × Nat)} (hw : wa tc ((k, v) :: L)) (h3 : k ≠ 3) (h2 : k ≠ 2) : (4 ≤ k ∧ k < 9) ∧ v = 0 ∧ hd L ≠ 2 := by
  rcases hw.2 with ⟨q, -⟩ | ⟨q, -⟩ | ⟨q, q2, q3⟩ | ⟨q, q2, q3⟩
  · exact absurd q h3
  · exact absurd q h2
  · simp only at q q2; exact ⟨by omega, q2, by omega⟩
  · simp only at q q2; exact ⟨by omega, q2, by omega⟩
/-- what binds more closely than an operator -/
theorem pop_op {r9 : MS → Int32 → Int32 → Int32 → Int32 → Option MS} {ar k0 : Nat} {br x4 : Int32} (hk0 : 4 ≤ k0 ∧ k0 < 9) (htw : tw tok W w = rk k0) (hw4 : w ≤ 400) : ∀ (L : List (Nat × Nat)) (E : Ed) (z : Nat) (m : MS), Fx m e W tok tc → Q m e E w → Sg m L → wa tc L → hd L ≠ 2 → E.1 2 + L.length ≤ 400 → L.length < z →
    ∃ m2, N_Mo_sum_383 F r9 z m (nI L.length) (nI ar) br x4 = N_Mo_sum_442 F r9 m2 (nI (stl (rnkK k0) L E ar).1.length) (nI ar) br x4 ∧ (stl (rnkK k0) L E ar).2.2 = ar ∧ FrY e m m2 ∧ Q m2 e (stl (rnkK k0) L E ar).2.1 w ∧ Sg m2 (stl (rnkK k0) L E ar).1 ∧ nBr (stl (rnkK k0) L E ar).1 = nBr L := by
  intro L
  induction L with
  | nil =>
    intro E z m hx h hs _ _ _ hz
    obtain ⟨z, rfl⟩ : ∃ y, z = y + 1 := ⟨z - 1, by omega⟩
    refine ⟨m, ?_, rfl, FrY.refl e m, h, hs, rfl⟩
    show BN_Mo_sum_383 F r9 _ m (nI 0) (nI ar) br x4 = _
    unfold BN_Mo_sum_383
    rw [if_pos (by decide)]
    rfl
  | cons x L ih =>
    intro E z m hx h hs hw hd0 hb hz
    obtain ⟨z, rfl⟩ : ∃ y, z = y + 1 := ⟨z - 1, by omega⟩
    obtain ⟨k, v⟩ := x
    obtain ⟨k2, k8⟩ := wa_k hw
    simp only at k2 k8
    simp only [List.length_cons] at hb hz ⊢
    simp only [hd] at hd0
    obtain ⟨s1, s2, s3⟩ := id hs
    simp only at s1 s2
    have a1 : ¬ nI (L.length + 1) ≤ 0 := nI_nle (by omega) (by omega)
    have a2 : ¬ (nI L.length < 0 ∨ 500 ≤ (nI L.length).toNatClampNeg) := nI_in (by omega) (by decide)
    have a3 : (nI L.length).toNatClampNeg = L.length := nI_clamp (by omega)
    simp only [stl]
    show ∃ m2, BN_Mo_sum_383 F r9 (N_Mo_sum_383 F r9 z) m (nI (L.length + 1)) (nI ar) br x4 = _ ∧ _
    unfold BN_Mo_sum_383 N_Mo_sum_425
    rw [if_neg a1, nI_pred, if_neg a2, a3, s1, isOp_eq (by omega), Option.bind_some]
    by_cases c : k = 3
    · subst c
      have c1 : rnkK 3 < rnkK k0 := by have := (rnk_op hk0).1; simp [rnkK] at this ⊢; omega
      simp only [c1, if_true]
      exact ⟨m, rfl, trivial, FrY.refl e m, h, hs, trivial⟩
    · obtain ⟨hop, hv, hd1⟩ := wa_op hw c hd0
      have hpr := isPr_eq (F := F) (m := m) hop
      have hpn := isPr_eq (F := F) (m := m) hk0
      have en := now_eq (F := F) hx h.2.1 hw4
      rw [htw] at en
      have h1 : ¬ (1 : Int32) = 0 := by decide
      rw [if_pos hop]
      simp only [h1, if_false]
      have a2' := a2
      rw [a3] at a2'
      rw [if_neg a2', s1, hpr, Option.bind_some]
      have hiff := rnkK_2 hop hk0
      by_cases c1 : rnkK k < rnkK k0
      · obtain ⟨u1, u2⟩ := hiff.mp c1
        simp only [c1, if_true]
        refine ⟨m, ?_, trivial, FrY.refl e m, h, hs, trivial⟩
        simp [u1, en, hpn, u2]
      · simp only [c1, if_false, hd0]
        have hk2 : ¬ k ≤ 2 := by omega
        obtain ⟨m1, x1, f1, q1, g1, g2⟩ := put_eq (F := F) hx h (by omega) k v (x := rk k) (y := 0) rfl (fun q => absurd q hk2)
        obtain ⟨m2, y1, y2, y3, y4, y5, y6⟩ := ih (emt E k v) z m1 (hx.fr f1) q1 (s3.of g1 g2) hw.1 hd1 (by rw [emt_2]; omega) (by omega)
        refine ⟨m2, ?_, y2, f1.trans y3, y4, y5, by simp [nBr, c]; exact y6⟩
        rw [← y1]
        have hz1 : ¬ nI L.length < 0 := nI_pos (by omega)
        have hz2 : ¬ 500 ≤ L.length := by omega
        by_cases u1 : rnkK k = 2
        · simp [u1, nI_m1, hz1, a3, hz2, s1, x1]
        · have u2 : ¬ rnkK k0 = 2 := fun q => c1 (hiff.mpr ⟨u1, q⟩)
          simp [u1, en, hpn, u2, nI_m1, hz1, a3, hz2, s1, x1]
/-- all that waits ends -/
theorem pop_all {ar : Nat} : ∀ (L : List (Nat × Nat)) (E : Ed) (z : Nat) (m : MS), Fx m e W tok tc → Q m e E w → Sg m L → wa tc L → hd L ≠ 2 → nAr L = 0 → E.1 2 + L.length ≤ 400 → L.length < z →
    ∃ m2, N_Mo_sum_484 F z m (nI L.length) = some m2 ∧ (stl 1 L E ar).1 = [] ∧ (stl 1 L E ar).2.2 = ar ∧ FrY e m m2 ∧ Q m2 e (stl 1 L E ar).2.1 w := by
  intro L
  induction L with
  | nil =>
    intro E z m hx h hs _ _ _ _ hz
    obtain ⟨z, rfl⟩ : ∃ y, z = y + 1 := ⟨z - 1, by omega⟩
    refine ⟨m, ?_, rfl, rfl, FrY.refl e m, h⟩
    show BN_Mo_sum_484 F _ m (nI 0) = _
    unfold BN_Mo_sum_484
    rw [if_pos (by decide)]
  | cons x L ih =>
    intro E z m hx h hs hw hd0 hn hb hz
    obtain ⟨z, rfl⟩ : ∃ y, z = y + 1 := ⟨z - 1, by omega⟩
    obtain ⟨k, v⟩ := x
    obtain ⟨k2, k8⟩ := wa_k hw
    simp only at k2 k8
    simp only [List.length_cons] at hb hz ⊢
    simp only [hd] at hd0
    obtain ⟨s1, s2, s3⟩ := id hs
    simp only at s1 s2
    have a1 : ¬ nI (L.length + 1) ≤ 0 := nI_nle (by omega) (by omega)
    have a2 : ¬ (nI L.length < 0 ∨ 500 ≤ (nI L.length).toNatClampNeg) := nI_in (by omega) (by decide)
    have a3 : (nI L.length).toNatClampNeg = L.length := nI_clamp (by omega)
    have c : k ≠ 3 := by
      intro q
      subst q
      simp [nAr, isOp] at hn
    obtain ⟨hop, hv, hd1⟩ := wa_op hw c hd0
    have ho : isOp k = true := by simp [isOp]; omega
    simp only [nAr, ho, if_true, Nat.add_zero] at hn
    have c1 : ¬ rnkK k < 1 := by have := rnk_op hop; omega
    have hk2 : ¬ k ≤ 2 := by omega
    simp only [stl, c1, if_false, hd0]
    obtain ⟨m1, x1, f1, q1, g1, g2⟩ := put_eq (F := F) hx h (by omega) k v (x := rk k) (y := 0) rfl (fun q => absurd q hk2)
    obtain ⟨m2, y1, y2, y3, y4, y5⟩ := ih (emt E k v) z m1 (hx.fr f1) q1 (s3.of g1 g2) hw.1 hd1 hn (by rw [emt_2]; omega) (by omega)
    refine ⟨m2, ?_, y2, y3, f1.trans y4, y5⟩
    rw [← y1]
    show BN_Mo_sum_484 F (N_Mo_sum_484 F z) m (nI (L.length + 1)) = _
    unfold BN_Mo_sum_484
    rw [if_neg a1, nI_m1, if_neg a2, a3, s1, x1, Option.bind_some]
/-- how a sum's reading ends -/
def SumR (m m2 : MS) (e W : Nat) (tok : Nat → Int32) (E : Ed) (rel nw w : Nat) (R : Nat ⊕ SA) : Prop :=
  FrY e m m2 ∧ ((∃ j, j ≤ W ∧ m2.1 24 = nI j ∧ m2.1 23 = nI j ∧ R = .inl j) ∨ ∃ w2 E2, w ≤ w2 ∧ w2 ≤ W ∧ Q m2 e E2 w2 ∧ opk (tw tok W w2) = 0 ∧ WFS (E2, 5, 0, rel, nw, []) w2 ∧ Ext E E2 ∧ R = run tok (W - w2) w2 (E2, 5, 0, rel, nw, []))
theorem SumR.pre {m m1 m2 : MS} {E E1 : Ed} {rel nw w w1 : Nat} {R : Nat ⊕ SA} (f : FrY e m m1) (x : Ext E E1) (hw : w ≤ w1) (h : SumR m1 m2 e W tok E1 rel nw w1 R) : SumR m m2 e W tok E rel nw w R := by
  refine ⟨f.trans h.1, ?_⟩
  rcases h.2 with q | ⟨w2, E2, q1, q2, q3, q4, q5, q6, q7⟩
  · exact Or.inl q
  · exact Or.inr ⟨w2, E2, by omega, q2, q3, q4, q5, x.trans q6, q7⟩
theorem run_step {tok : Nat → Int32} {W w : Nat} {S S2 : SA} (hw : w < W) (h : ta S w (tok w) = some S2) : run tok (W - w) w S = run tok (W - (w + 1)) (w + 1) S2 := by
  obtain ⟨d, hd⟩ : ∃ d, W - w = d + 1 := ⟨W - w - 1, by omega⟩
  have : W - (w + 1) = d := by omega
  rw [hd, this]
  simp only [run, h]
theorem run_bad {tok : Nat → Int32} {W w : Nat} {S : SA} (hw : w < W) (h : ta S w (tok w) = none) : run tok (W - w) w S = .inl w := by
  obtain ⟨d, hd⟩ : ∃ d, W - w = d + 1 := ⟨W - w - 1, by omega⟩
  rw [hd]
  simp only [run, h]
theorem run_end {tok : Nat → Int32} {W w : Nat} {S : SA} (hw : W ≤ w) (h : S.2.1 ≠ 0) : run tok (W - w) w S = .inl w := by
  have : W - w = 0 := by omega
  rw [this]
  simp only [run, h, if_false]
/-- settled or not: the same from there on -/
theorem run_settled {tok : Nat → Int32} {W w : Nat} {E : Ed} {rel nw : Nat} {L : List (Nat × Nat)} (ho : opk (tw tok W w) = 0) (h1 : (stl 1 L E 0).1 = []) (h2 : (stl 1 L E 0).2.2 = 0) : run tok (W - w) w (E, 5, 0, rel, nw, L) = run tok (W - w) w ((stl 1 L E 0).2.1, 5, 0, rel, nw, []) := by
  by_cases c : w < W
  · obtain ⟨d, hd⟩ : ∃ d, W - w = d + 1 := ⟨W - w - 1, by omega⟩
    unfold tw at ho
    rw [if_pos c] at ho
    have e : ta (E, 5, 0, rel, nw, L) w (tok w) = ta ((stl 1 L E 0).2.1, 5, 0, rel, nw, []) w (tok w) := by
      show tb E 0 rel nw L w (tok w) = tb (stl 1 L E 0).2.1 0 rel nw [] w (tok w)
      unfold tb
      simp only [ho, ne_eq, not_true_eq_false, if_false, Nat.lt_irrefl, h1, h2, stl]
    rw [hd]
    simp only [run, e]
  · rw [run_end (by omega) (by simp), run_end (by omega) (by simp)]
theorem nBr_pos {tc : Nat} {L : List (Nat × Nat)} : wa tc L → hd L ≠ 2 → (0 < nBr L ↔ 0 < nAr L) := by
  induction L with
  | nil => intro _ _; simp [nBr, nAr]
  | cons x L ih =>
    intro hw hd0
    obtain ⟨k, v⟩ := x
    simp only [hd] at hd0
    by_cases c : k = 3
    · subst c; simp [nBr, nAr, isOp]
    · obtain ⟨hop, -, hd1⟩ := wa_op hw c hd0
      have ho : isOp k = true := by simp [isOp]; omega
      simp only [nBr, nAr, c, ho, if_true, if_false, Nat.add_zero]
      exact ih hw.1 hd1
theorem nBr_le {L : List (Nat × Nat)} : nBr L ≤ L.length := by
  induction L with
  | nil => simp [nBr]
  | cons x L ih => simp only [nBr, List.length_cons]; split <;> omega
theorem nBr_stl {tc : Nat} : ∀ {L : List (Nat × Nat)} {E : Ed} {ar : Nat}, wa tc L → nBr (stl 3 L E ar).1 = nBr L := by
  intro L
  induction L with
  | nil => intro E ar _; rfl
  | cons x L ih =>
    intro E ar hw
    simp only [stl]
    by_cases c : rnkK x.1 < 3
    · simp only [c, if_true]
    · simp only [c, if_false]
      rw [ih hw.1]
      have : x.1 ≠ 3 := fun q => c (by rw [q]; decide)
      simp [nBr, this]
end SUM
