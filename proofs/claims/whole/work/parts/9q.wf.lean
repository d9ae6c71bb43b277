/-! THE AUTOMATON KEEPS TEXTS WELL FORMED -/
def Ext (E E2 : Ed) : Prop := (∀ j, j ≠ 2 → E2.1 j = E.1 j) ∧ E.1 2 ≤ E2.1 2 ∧ (∀ j, 3 ≤ j → E2.2 j = E.2 j) ∧ (∀ i, i < E.1 2 → E2.2 0 i = E.2 0 i ∧ E2.2 1 i = E.2 1 i) ∧ ∀ i, i ≤ E.1 2 → E2.2 2 i = E.2 2 i
theorem Ext.refl (E : Ed) : Ext E E := ⟨fun _ _ => rfl, Nat.le_refl _, fun _ _ => rfl, fun _ _ => ⟨rfl, rfl⟩, fun _ _ => rfl⟩
theorem Ext.trans {E E2 E3 : Ed} (h : Ext E E2) (g : Ext E2 E3) : Ext E E3 := by
  obtain ⟨h1, h2, h3, h4, h5⟩ := h
  obtain ⟨g1, g2, g3, g4, g5⟩ := g
  refine ⟨fun j hj => (g1 j hj).trans (h1 j hj), by omega, fun j hj => (g3 j hj).trans (h3 j hj), fun i hi => ?_, fun i hi => (g5 i (by omega)).trans (h5 i hi)⟩
  obtain ⟨a1, a2⟩ := h4 i hi
  obtain ⟨b1, b2⟩ := g4 i (by omega)
  exact ⟨b1.trans a1, b2.trans a2⟩
def WSs (E : Ed) : Prop := ∀ i, i < E.1 2 → WS E i
theorem emt_ext (E : Ed) (k v : Nat) : Ext E (emt E k v) := by
  refine ⟨fun j hj => by simp [emt, hj], by simp [emt], fun j hj => ?_, fun i hi => ?_, fun i hi => ?_⟩
  · have h0 : ¬ j = 0 := by omega
    have h1 : ¬ j = 1 := by omega
    have h2 : ¬ j = 2 := by omega
    simp [emt, h0, h1, h2]
  · have : ¬ i = E.1 2 := by omega
    simp [emt, this]
  · have : ¬ i = E.1 2 + 1 := by omega
    simp [emt, this]
theorem emt_2 (E : Ed) (k v : Nat) : (emt E k v).1 2 = E.1 2 + 1 := by simp [emt]
theorem emt_h (E : Ed) (k v : Nat) : (emt E k v).2 2 ((emt E k v).1 2) = if k ≤ 1 then E.2 2 (E.1 2) + 1 else if k = 2 then E.2 2 (E.1 2) else if k < 9 then E.2 2 (E.1 2) - 1 else 0 := by simp [emt]
theorem emt_at (E : Ed) (k v : Nat) : (emt E k v).2 0 (E.1 2) = k ∧ (emt E k v).2 1 (E.1 2) = v := by simp [emt]
theorem WS.ext {E E2 : Ed} (h : Ext E E2) {i : Nat} (hi : i < E.1 2) (w : WS E i) : WS E2 i := by
  obtain ⟨h1, h2, h3, h4, h5⟩ := h
  unfold WS
  rw [(h4 i hi).1, (h4 i hi).2, h5 (i + 1) (by omega), h5 i (by omega), h1 3 (by decide)]
  exact w
theorem emt_ws {E : Ed} {k v : Nat} (h : WSs E) (h64 : E.2 2 (E.1 2) < 64) (c : k = 0 ∧ v < 1000000000 ∨ k = 1 ∧ v < 20 ∨ k = 2 ∧ v < E.1 3 ∧ 1 ≤ E.2 2 (E.1 2) ∨ 4 ≤ k ∧ k < 9 ∧ 2 ≤ E.2 2 (E.1 2) ∨ 9 ≤ k ∧ k ≤ 12 ∧ E.2 2 (E.1 2) = 2) : WSs (emt E k v) := by
  intro i hi
  rw [emt_2] at hi
  by_cases e : i < E.1 2
  · exact (h i e).ext (emt_ext E k v) e
  · have ei : i = E.1 2 := by omega
    subst ei
    obtain ⟨a1, a2⟩ := emt_at E k v
    have a3 : (emt E k v).2 2 (E.1 2) = E.2 2 (E.1 2) := (emt_ext E k v).2.2.2.2 _ (Nat.le_refl _)
    have a4 := emt_h E k v
    rw [emt_2] at a4
    have a5 : (emt E k v).1 3 = E.1 3 := (emt_ext E k v).1 3 (by decide)
    unfold WS
    rw [a1, a2, a3, a4, a5]
    rcases c with ⟨c1, c2⟩ | ⟨c1, c2⟩ | ⟨c1, c2, c3⟩ | ⟨c1, c2, c3⟩ | ⟨c1, c2, c3⟩
    · subst c1; simp; omega
    · subst c1; simp; omega
    · subst c1; simp; omega
    · have n1 : ¬ k ≤ 1 := by omega
      have n2 : ¬ k = 2 := by omega
      have eif : (if k ≤ 1 then E.2 2 (E.1 2) + 1 else if k = 2 then E.2 2 (E.1 2) else if k < 9 then E.2 2 (E.1 2) - 1 else 0) = E.2 2 (E.1 2) - 1 := by simp [n1, n2, c2]
      rw [eif]; omega
    · have n1 : ¬ k ≤ 1 := by omega
      have n2 : ¬ k = 2 := by omega
      have n3 : ¬ k < 9 := by omega
      have eif : (if k ≤ 1 then E.2 2 (E.1 2) + 1 else if k = 2 then E.2 2 (E.1 2) else if k < 9 then E.2 2 (E.1 2) - 1 else 0) = 0 := by simp [n1, n2, n3]
      rw [eif]; omega
/-- what settling does, behind an atom -/
theorem stl_ok {tc rho r : Nat} (hr : 1 ≤ r) : ∀ {L : List (Nat × Nat)} {E : Ed} {ar : Nat}, wa tc L → WSs E → E.1 3 = tc → ar = nAr L → ar ≤ 13 → rho ≤ 1 → E.2 2 (E.1 2) = nOp L + rho + 1 →
    WSs (stl r L E ar).2.1 ∧ Ext E (stl r L E ar).2.1 ∧ wa tc (stl r L E ar).1 ∧ (stl r L E ar).2.2 = nAr (stl r L E ar).1 ∧ (stl r L E ar).2.2 ≤ ar ∧ (stl r L E ar).2.1.2 2 ((stl r L E ar).2.1.1 2) = nOp (stl r L E ar).1 + rho + 1 ∧ (stl r L E ar).2.1.1 2 + (stl r L E ar).1.length = E.1 2 + L.length ∧ (∀ x L2, (stl r L E ar).1 = x :: L2 → rnkK x.1 < r) := by
  intro L
  induction L with
  | nil => intro E ar h1 h2 h3 h4 h5 h6 h7; exact ⟨h2, Ext.refl E, trivial, h4, Nat.le_refl _, h7, rfl, fun x L2 q => by simp [stl] at q⟩
  | cons x L ih =>
    intro E ar h1 h2 h3 h4 h5 h6 h7
    simp only [stl]
    by_cases c : rnkK x.1 < r
    · simp only [c, if_true]
      refine ⟨h2, Ext.refl E, h1, h4, Nat.le_refl _, h7, trivial, fun y L2 q => ?_⟩
      simp at q
      rw [← q.1]
      exact c
    · simp only [c, if_false]
      have hb := wa_bound h1
      obtain ⟨g1, g2⟩ := h1
      have hx3 : x.1 ≠ 3 := fun q => c (by rw [q]; simp [rnkK]; omega)
      have e2 := emt_2 E x.1 x.2
      have eh := emt_h E x.1 x.2
      have hext := emt_ext E x.1 x.2
      have h64 : E.2 2 (E.1 2) < 64 := by omega
      by_cases hp : x.1 = 2
      · have ho : isOp x.1 = false := by rw [hp]; rfl
        have hv : x.2 < tc := by
          rcases g2 with ⟨q, -⟩ | ⟨-, q⟩ | ⟨q, -⟩ | ⟨q, -⟩ <;> omega
        simp only [nAr, nOp, ho, Bool.false_eq_true, if_false] at h4 h7 hb
        have hw := emt_ws (k := x.1) (v := x.2) h2 h64 (Or.inr (Or.inr (Or.inl ⟨hp, by omega, by omega⟩)))
        obtain ⟨i1, i2, i3, i4, i5, i6, i7, i8⟩ := ih (E := emt E x.1 x.2) (ar := ar - 1) g1 hw (by rw [hext.1 3 (by decide)]; exact h3) (by omega) (by omega) h6 (by rw [eh, hp]; simp; omega)
        simp only [hp, if_true] at i1 i2 i3 i4 i5 i6 i7 i8 ⊢
        rw [hp] at e2 hext
        refine ⟨i1, hext.trans i2, i3, i4, by omega, i6, ?_, i8⟩
        rw [i7, e2, List.length_cons]; omega
      · have ho : isOp x.1 = true := by
          simp [isOp]
          rcases g2 with ⟨q, -⟩ | ⟨q, -⟩ | ⟨q, -⟩ | ⟨q, -⟩ <;> omega
        have hk : 4 ≤ x.1 ∧ x.1 < 9 := by simpa [isOp] using ho
        simp only [nAr, nOp, ho, if_true] at h4 h7 hb
        have hw := emt_ws (k := x.1) (v := x.2) h2 h64 (Or.inr (Or.inr (Or.inr (Or.inl ⟨hk.1, hk.2, by omega⟩))))
        have n1 : ¬ x.1 ≤ 1 := by omega
        obtain ⟨i1, i2, i3, i4, i5, i6, i7, i8⟩ := ih (E := emt E x.1 x.2) (ar := ar) g1 hw (by rw [hext.1 3 (by decide)]; exact h3) (by omega) h5 h6 (by rw [eh]; simp only [n1, hp, hk.2, if_true, if_false]; omega)
        simp only [hp, if_false] at i1 i2 i3 i4 i5 i6 i7 i8 ⊢
        refine ⟨i1, hext.trans i2, i3, i4, i5, i6, ?_, i8⟩
        rw [i7, e2, List.length_cons]; omega
/-- the rule that is being read -/
def RP (E : Ed) (nw : Nat) : Prop := 1 ≤ E.1 4 ∧ E.2 6 (E.1 4 - 1) ≤ E.2 8 (E.1 4 - 1) ∧ E.2 8 (E.1 4 - 1) ≤ E.1 2 ∧ E.2 2 (E.2 6 (E.1 4 - 1)) = 0 ∧ E.2 2 (E.2 8 (E.1 4 - 1)) = 0 ∧ (E.2 10 (E.1 4 - 1) = 0 → E.2 8 (E.1 4 - 1) = E.2 6 (E.1 4 - 1)) ∧ (nw = 1 → E.2 10 (E.1 4 - 1) = 1 ∧ E.2 8 (E.1 4 - 1) = E.2 6 (E.1 4 - 1))
def WF1 (E : Ed) (rl2 : Nat) : Prop := E.1 0 ≤ 100000 ∧ E.1 3 ≤ 8 ∧ E.1 4 ≤ 12 ∧ WSs E ∧ (∀ t, t < E.1 3 → WT E t) ∧ ∀ k, k < rl2 → WR E k
def WFS (S : SA) (w : Nat) : Prop :=
  S.1.1 2 + S.2.2.2.2.2.length + (if S.2.2.2.1 = 0 then 0 else 1) ≤ w ∧
  ((S.2.1 ≤ 1 ∧ WF1 S.1 (S.1.1 4) ∧ S.2.2.2.2.2 = [] ∧ S.2.2.1 = 0 ∧ S.2.2.2.1 = 0 ∧ S.1.2 2 (S.1.1 2) = 0 ∧ (S.2.1 = 1 → 1 ≤ S.1.1 3)) ∨
   (2 ≤ S.2.1 ∧ S.2.1 ≤ 5 ∧ WF1 S.1 (S.1.1 4 - 1) ∧ RP S.1 S.2.2.2.2.1 ∧ wa (S.1.1 3) S.2.2.2.2.2 ∧ (S.2.1 = 5 → hd S.2.2.2.2.2 ≠ 2) ∧ S.2.2.1 = nAr S.2.2.2.2.2 ∧ S.2.2.1 ≤ 13 ∧ (3 ≤ S.2.1 → S.2.2.1 ≤ 12) ∧ (S.2.2.2.1 = 0 ∨ 9 ≤ S.2.2.2.1 ∧ S.2.2.2.1 ≤ 12) ∧ (S.2.2.2.2.1 = 0 ∨ S.2.2.2.2.1 = 1) ∧ S.1.2 2 (S.1.1 2) = nOp S.2.2.2.2.2 + (if S.2.2.2.1 = 0 then 0 else 1) + (if S.2.1 = 5 then 1 else 0)))
theorem WR.ext {E E2 : Ed} (h : Ext E E2) {k : Nat} (w : WR E k) : WR E2 k := by
  obtain ⟨h1, h2, h3, h4, h5⟩ := h
  unfold WR at w ⊢
  rw [h3 6 (by decide), h3 8 (by decide), h3 9 (by decide), h3 10 (by decide)]
  obtain ⟨w1, w2, w3, w4, w5, w6⟩ := w
  exact ⟨w1, w2, by omega, by rw [h5 _ (by omega)]; exact w4, by rw [h5 _ (by omega)]; exact w5, w6⟩
theorem RP.ext {E E2 : Ed} {nw : Nat} (h : Ext E E2) (w : RP E nw) : RP E2 nw := by
  obtain ⟨h1, h2, h3, h4, h5⟩ := h
  unfold RP at w ⊢
  rw [h1 4 (by decide), h3 6 (by decide), h3 8 (by decide), h3 10 (by decide)]
  obtain ⟨w1, w2, w3, w4, w5, w6, w7⟩ := w
  exact ⟨w1, w2, by omega, by rw [h5 _ (by omega)]; exact w4, by rw [h5 _ (by omega)]; exact w5, w6, w7⟩
theorem WF1.ext {E E2 : Ed} {k : Nat} (h : Ext E E2) (w : WF1 E k) (hs : WSs E2) : WF1 E2 k := by
  obtain ⟨w1, w2, w3, w4, w5, w6⟩ := w
  obtain ⟨h1, h2, h3, h4, h5⟩ := id h
  refine ⟨by rw [h1 0 (by decide)]; exact w1, by rw [h1 3 (by decide)]; exact w2, by rw [h1 4 (by decide)]; exact w3, hs, fun t ht => ?_, fun k hk => (w6 k hk).ext h⟩
  rw [h1 3 (by decide)] at ht
  have := w5 t ht
  unfold WT at this ⊢
  rw [h3 3 (by decide), h3 4 (by decide)]
  exact this
/-- an atom ends -/
theorem enA_wf {E : Ed} {ar rel nw w : Nat} {L : List (Nat × Nat)} (hF : WF1 E (E.1 4 - 1)) (hR : RP E nw) (hL : wa (E.1 3) L) (ha : ar = nAr L) (ha2 : ar ≤ 12) (hrel : rel = 0 ∨ 9 ≤ rel ∧ rel ≤ 12) (hnw : nw = 0 ∨ nw = 1) (hh : E.2 2 (E.1 2) = nOp L + (if rel = 0 then 0 else 1) + 1) (hb : E.1 2 + L.length + (if rel = 0 then 0 else 1) ≤ w) : WFS (enA E ar rel nw L) w := by
  obtain ⟨i1, i2, i3, i4, i5, i6, i7, i8⟩ := stl_ok (tc := E.1 3) (rho := if rel = 0 then 0 else 1) (r := 3) (by decide) (L := L) (E := E) (ar := ar) hL hF.2.2.2.1 rfl ha (by omega) (by split <;> omega) hh
  unfold enA WFS
  simp only
  have e3 := i2.1 3 (by decide)
  have e4 := i2.1 4 (by decide)
  refine ⟨by rw [i7]; exact hb, Or.inr ⟨by decide, by decide, by rw [e4]; exact hF.ext i2 i1, hR.ext i2, by rw [e3]; exact i3, ?_, i4, by omega, fun _ => by omega, hrel, hnw, by rw [i6]; simp⟩⟩
  intro _
  cases hq : (stl 3 L E ar).1 with
  | nil => simp [hd]
  | cons x L2 =>
    have := i8 x L2 hq
    simp only [hd]
    intro q
    rw [q] at this
    simp [rnkK] at this
theorem rnk_op {k : Nat} (h : 4 ≤ k ∧ k < 9) : 1 ≤ rnkK k ∧ rnkK k ≤ 2 := by
  have : k = 4 ∨ k = 5 ∨ k = 6 ∨ k = 7 ∨ k = 8 := by omega
  rcases this with h | h | h | h | h <;> subst h <;> decide
theorem opk_rng (t : Int32) : opk t = 0 ∨ 4 ≤ opk t ∧ opk t < 9 := by
  unfold opk
  repeat' split
  all_goals omega
theorem rlk_rng (t : Int32) : rlk t = 0 ∨ 9 ≤ rlk t ∧ rlk t ≤ 12 := by
  unfold rlk
  repeat' split
  all_goals omega
theorem hd_cases {tc : Nat} {L : List (Nat × Nat)} (h : wa tc L) : hd L = 2 ∨ hd L = 3 ∨ 4 ≤ hd L ∧ hd L < 9 := by
  cases L with
  | nil => simp [hd]
  | cons x L =>
    simp only [hd]
    rcases h.2 with ⟨q, -⟩ | ⟨q, -⟩ | ⟨q, -⟩ | ⟨q, -⟩ <;> omega
/-- settling for an operator leaves a list to which it may be added -/
theorem wa_push {tc r k : Nat} (hk : 4 ≤ k ∧ k < 9) (hr : r = rnkK k) {L : List (Nat × Nat)} (h : wa tc L) (h2 : hd L ≠ 2 ∨ L = []) (h8 : ∀ x L2, L = x :: L2 → rnkK x.1 < r) : wa tc ((k, 0) :: L) := by
  refine ⟨h, ?_⟩
  have hh := hd_cases h
  have hd3 : hd L = 3 ∨ (hd L = 4 ∨ hd L = 5) ∧ 6 ≤ k := by
    cases L with
    | nil => left; rfl
    | cons x L =>
      have q := h8 x L rfl
      simp only [hd] at hh h2 ⊢
      rcases hh with h | h | h
      · rcases h2 with g | g
        · exact absurd h g
        · cases g
      · exact Or.inl h
      · right
        have hx : x.1 = 4 ∨ x.1 = 5 ∨ x.1 = 6 ∨ x.1 = 7 ∨ x.1 = 8 := by omega
        have hkk : k = 4 ∨ k = 5 ∨ k = 6 ∨ k = 7 ∨ k = 8 := by omega
        rw [hr] at q
        rcases hx with e | e | e | e | e <;> rw [e] at q ⊢ <;> rcases hkk with f | f | f | f | f <;> subst f <;> simp [rnkK] at q ⊢
  simp only
  by_cases c : k = 4 ∨ k = 5
  · rcases hd3 with h | ⟨-, h⟩
    · right; right; left; exact ⟨c, trivial, h⟩
    · omega
  · right; right; right
    refine ⟨by omega, trivial, ?_⟩
    rcases hd3 with h | ⟨h, -⟩
    · exact Or.inl h
    · exact Or.inr h
/-- a list that begins with no place stays one when it is settled -/
theorem stl_hd {tc r : Nat} (hr : 1 ≤ r) : ∀ {L : List (Nat × Nat)} {E : Ed} {ar : Nat}, wa tc L → hd L ≠ 2 → hd (stl r L E ar).1 ≠ 2 := by
  intro L
  induction L with
  | nil => intro E ar _ h; exact h
  | cons x L ih =>
    intro E ar hw h
    simp only [stl]
    by_cases c : rnkK x.1 < r
    · simp only [c, if_true]; exact h
    · simp only [c, if_false]
      have hx3 : x.1 ≠ 3 := fun q => c (by rw [q]; simp [rnkK]; omega)
      simp only [hd] at h
      apply ih hw.1
      rcases hw.2 with ⟨q, -⟩ | ⟨q, -⟩ | ⟨-, -, q⟩ | ⟨-, -, q⟩
      · exact absurd q hx3
      · exact absurd q h
      · omega
      · omega
theorem setR_o (E : Ed) (j i v : Nat) {q : Nat} (h : q ≠ j) : (setR E j i v).2 q = E.2 q := by simp [setR, h]
theorem setR_e (E : Ed) (j i v : Nat) : (setR E j i v).2 j i = v := by simp [setR]
theorem setR_n (E : Ed) (j i v : Nat) {x : Nat} (h : x ≠ i) : (setR E j i v).2 j x = E.2 j x := by simp [setR, h]
theorem WSs.rows {E E2 : Ed} (h : WSs E) (h2 : E2.1 2 = E.1 2) (h3 : E.1 3 ≤ E2.1 3) (r0 : E2.2 0 = E.2 0) (r1 : E2.2 1 = E.2 1) (r2 : E2.2 2 = E.2 2) : WSs E2 := by
  intro i hi
  rw [h2] at hi
  have := h i hi
  unfold WS at this ⊢
  rw [r0, r1, r2]
  refine ⟨?_, this.2⟩
  rcases this.1 with q | q | q | q | q
  · exact Or.inl q
  · exact Or.inr (Or.inl q)
  · exact Or.inr (Or.inr (Or.inl ⟨q.1, by omega, q.2.2⟩))
  · exact Or.inr (Or.inr (Or.inr (Or.inl q)))
  · exact Or.inr (Or.inr (Or.inr (Or.inr q)))
theorem ta_item {E : Ed} {w ar rel nw : Nat} {L : List (Nat × Nat)} {t : Int32} {S2 : SA} (h : WFS (E, 0, ar, rel, nw, L) w) (e : ta (E, 0, ar, rel, nw, L) w t = some S2) : WFS S2 (w + 1) := by
  obtain ⟨h1, h | h⟩ := h
  · obtain ⟨-, ⟨f1, f2, f3, f4, f5, f6⟩, hL, har, hrel, hh, -⟩ := h
    simp only at h1 f1 f2 f3 f4 f5 f6 hL har hrel hh
    subst hL har hrel
    simp at h1
    unfold ta at e
    simp only [if_true] at e
    by_cases c1 : t = -1
    · rw [if_pos c1] at e
      by_cases c2 : E.1 3 < 8
      · rw [if_pos c2] at e
        cases e
        refine ⟨by simp [bgT, setS, setR]; omega, Or.inl ⟨by simp, ⟨by simp [bgT, setS, setR]; exact f1, by simp [bgT, setS, setR]; omega, by simp [bgT, setS, setR]; exact f3, f4.rows (by simp [bgT, setS, setR]) (by simp [bgT, setS, setR]) (by simp [bgT, setS, setR]) (by simp [bgT, setS, setR]) (by simp [bgT, setS, setR]), fun t ht => ?_, fun k hk => ?_⟩, rfl, rfl, rfl, by simp [bgT, setS, setR]; exact hh, fun _ => by simp [bgT, setS, setR]⟩⟩
        · simp [bgT, setS, setR] at ht
          unfold WT
          by_cases ct : t = E.1 3
          · subst ct; simp [bgT, setS, setR]
          · have := f5 t (by omega)
            unfold WT at this
            simp [bgT, setS, setR, ct]
            exact this
        · simp [bgT, setS, setR] at hk
          have := f6 k hk
          unfold WR at this ⊢
          simp [bgT, setS, setR]
          exact this
      · rw [if_neg c2] at e; cases e
    · rw [if_neg c1] at e
      have rul : ∀ hh2 nw2 : Nat, (nw2 = 0 ∨ nw2 = 1) → hh2 = nw2 → E.1 4 < 12 → WFS (bgR E w hh2, 2, 0, 0, nw2, []) (w + 1) := by
        intro hw nw2 hn2 hhn h12
        have r0 : ∀ q, q ≤ 4 → (bgR E w hw).2 q = E.2 q := fun q hq => by
          have n5 : q ≠ 5 := by omega
          have n6 : q ≠ 6 := by omega
          have n7 : q ≠ 7 := by omega
          have n8 : q ≠ 8 := by omega
          have n9 : q ≠ 9 := by omega
          have n10 : q ≠ 10 := by omega
          simp [bgR, setS, setR, n5, n6, n7, n8, n9, n10]
        have s0 : ∀ q, q ≠ 4 → (bgR E w hw).1 q = E.1 q := fun q hq => by simp [bgR, setS, setR, hq]
        have s4 : (bgR E w hw).1 4 = E.1 4 + 1 := by simp [bgR, setS, setR]
        refine ⟨by simp [s0]; omega, Or.inr ⟨by simp, by simp, ⟨by rw [s0 0 (by decide)]; exact f1, by rw [s0 3 (by decide)]; exact f2, by rw [s4]; omega, f4.rows (s0 2 (by decide)) (by rw [s0 3 (by decide)]; exact Nat.le_refl _) (r0 0 (by decide)) (r0 1 (by decide)) (r0 2 (by decide)), fun t ht => ?_, fun k hk => ?_⟩, ?_, trivial, fun q => by simp at q, rfl, by simp, fun q => by simp at q, Or.inl rfl, hn2, ?_⟩⟩
        · rw [s0 3 (by decide)] at ht
          have := f5 t ht
          unfold WT at this ⊢
          rw [r0 3 (by decide), r0 4 (by decide)]
          exact this
        · rw [s4] at hk
          have hk2 : k ≠ E.1 4 := by omega
          have := f6 k (by omega)
          unfold WR at this ⊢
          rw [r0 2 (by decide), s0 2 (by decide)]
          simp [bgR, setS, setR, hk2]
          exact this
        · unfold RP
          rw [s4, r0 2 (by decide), s0 2 (by decide)]
          simp [bgR, setS, setR]
          exact ⟨hh, fun q => by omega⟩
        · simp only [r0 2 (by decide), s0 2 (by decide)]
          simp [nOp, hh]
      by_cases c2 : t = -3
      · rw [if_pos c2] at e
        by_cases c3 : E.1 4 < 12
        · rw [if_pos c3] at e; cases e; exact rul 1 1 (Or.inr rfl) rfl c3
        · rw [if_neg c3] at e; cases e
      · rw [if_neg c2] at e
        by_cases c3 : t = -2
        · rw [if_pos c3] at e
          by_cases c4 : E.1 4 < 12
          · rw [if_pos c4] at e; cases e; exact rul 0 0 (Or.inl rfl) rfl c4
          · rw [if_neg c4] at e; cases e
        · rw [if_neg c3] at e; cases e
  · have := h.1; simp at this
theorem ta_num {E : Ed} {w ar rel nw : Nat} {L : List (Nat × Nat)} {t : Int32} {S2 : SA} (ht : 0 ≤ t → t.toNatClampNeg < 1000000000) (h : WFS (E, 1, ar, rel, nw, L) w) (e : ta (E, 1, ar, rel, nw, L) w t = some S2) : WFS S2 (w + 1) := by
  obtain ⟨h1, h | h⟩ := h
  · obtain ⟨-, ⟨f1, f2, f3, f4, f5, f6⟩, hL, har, hrel, hh, h3⟩ := h
    simp only at h1 f1 f2 f3 f4 f5 f6 hL har hrel hh h3
    subst hL har hrel
    simp at h1
    have h3 := h3 trivial
    unfold ta at e
    simp only [show ¬ (1 : Nat) = 0 by decide, if_false, if_true] at e
    by_cases c1 : t = -19
    · rw [if_pos c1] at e
      by_cases c2 : 0 < E.2 3 (E.1 3 - 1)
      · rw [if_pos c2] at e
        cases e
        exact ⟨by simp; omega, Or.inl ⟨by simp, ⟨f1, f2, f3, f4, f5, f6⟩, rfl, rfl, rfl, hh, fun q => by simp at q⟩⟩
      · rw [if_neg c2] at e; cases e
    · rw [if_neg c1] at e
      by_cases c2 : 0 ≤ t
      · rw [if_pos c2] at e
        by_cases c3 : E.2 3 (E.1 3 - 1) < 10
        · rw [if_pos c3] at e
          cases e
          have hv := ht c2
          obtain ⟨v, hvd⟩ : ∃ v, v = t.toNatClampNeg := ⟨_, rfl⟩
          rw [← hvd] at hv ⊢
          have r0 : ∀ q, q ≠ 3 → q ≠ 4 → (adN E v).2 q = E.2 q := fun q h3 h4 => by simp [adN, setR, h3, h4]
          have s0 : (adN E v).1 = E.1 := rfl
          refine ⟨by simp [s0]; omega, Or.inl ⟨by simp, ⟨f1, f2, f3, f4.rows rfl (Nat.le_refl _) (r0 0 (by decide) (by decide)) (r0 1 (by decide) (by decide)) (r0 2 (by decide) (by decide)), fun t2 ht2 => ?_, fun k hk => ?_⟩, rfl, rfl, rfl, by simp [s0, r0 2 (by decide) (by decide)]; exact hh, fun _ => h3⟩⟩
          · have := f5 t2 ht2
            unfold WT at this ⊢
            by_cases ct : t2 = E.1 3 - 1
            · subst ct
              simp [adN, setR]
              refine ⟨by omega, fun k hk => ?_⟩
              by_cases ck : k = E.2 3 (E.1 3 - 1)
              · simp [ck, hv]
              · simp [ck]
                exact this.2 k (by omega)
            · simp [adN, setR, ct]
              refine ⟨this.1, fun k hk => ?_⟩
              have h10 := this.1
              have ck : ¬ 10 * t2 + k = 10 * (E.1 3 - 1) + E.2 3 (E.1 3 - 1) := by omega
              simp [ck]
              exact this.2 k hk
          · have := f6 k hk
            unfold WR at this ⊢
            rw [r0 6 (by decide) (by decide), r0 8 (by decide) (by decide), r0 9 (by decide) (by decide), r0 2 (by decide) (by decide), r0 10 (by decide) (by decide)]
            exact this
        · rw [if_neg c3] at e; cases e
      · rw [if_neg c2] at e; cases e
  · have := h.1; simp at this
theorem wr_emt {E : Ed} {k v kk : Nat} (w : WR E kk) : WR (emt E k v) kk := w.ext (emt_ext E k v)
theorem ta_atom {E : Ed} {w ar rel nw : Nat} {L : List (Nat × Nat)} {t : Int32} {S2 : SA} (ht : 0 ≤ t → t.toNatClampNeg < 1000000000) (h : WFS (E, 2, ar, rel, nw, L) w) (e : ta (E, 2, ar, rel, nw, L) w t = some S2) : WFS S2 (w + 1) := by
  obtain ⟨h1, h | h⟩ := h
  · have := h.1; simp at this
  · obtain ⟨-, -, hF, hR, hL, -, ha, ha13, -, hrel, hnw, hh⟩ := h
    simp only at h1 hF hR hL ha ha13 hrel hnw hh
    simp at hh
    unfold ta at e
    simp only [show ¬ (2 : Nat) = 0 by decide, show ¬ (2 : Nat) = 1 by decide, if_false, if_true] at e
    by_cases c0 : 12 < ar
    · rw [if_pos c0] at e; cases e
    · rw [if_neg c0] at e
      have hb := wa_bound hL
      by_cases c1 : 0 ≤ t
      · rw [if_pos c1] at e
        cases e
        have hv := ht c1
        have hext := emt_ext E 0 t.toNatClampNeg
        have hr1 : (if rel = 0 then 0 else 1) ≤ 1 := by split <;> omega
        have hs := emt_ws (k := 0) (v := t.toNatClampNeg) hF.2.2.2.1 (by omega) (Or.inl ⟨rfl, hv⟩)
        refine enA_wf (by rw [hext.1 4 (by decide)]; exact hF.ext hext hs) (hR.ext hext) (by rw [hext.1 3 (by decide)]; exact hL) ha (by omega) hrel hnw ?_ ?_
        · rw [emt_h]; simp; omega
        · rw [emt_2]; omega
      · rw [if_neg c1] at e
        by_cases c2 : t = -6
        · rw [if_pos c2] at e; cases e
          exact ⟨by simp only; omega, Or.inr ⟨by simp, by simp, hF, hR, hL, fun q => by simp at q, ha, ha13, fun _ => by simp only; omega, hrel, hnw, by simpa using hh⟩⟩
        · rw [if_neg c2] at e
          by_cases c3 : t = -7
          · rw [if_pos c3] at e; cases e
            exact ⟨by simp only; omega, Or.inr ⟨by simp, by simp, hF, hR, hL, fun q => by simp at q, ha, ha13, fun _ => by simp only; omega, hrel, hnw, by simpa using hh⟩⟩
          · rw [if_neg c3] at e
            by_cases c4 : t = -8
            · rw [if_pos c4] at e; cases e
              exact ⟨by simp only [List.length_cons]; omega, Or.inr ⟨by simp, by simp, hF, hR, ⟨hL, Or.inl ⟨rfl, rfl⟩⟩, fun q => by simp at q, by simp [nAr, isOp, ha], by simp only; omega, fun q => by simp at q, hrel, hnw, by simp [nOp, isOp]; exact hh⟩⟩
            · rw [if_neg c4] at e; cases e
theorem ta_names {E : Ed} {aw w ar rel nw : Nat} {L : List (Nat × Nat)} {t : Int32} {S2 : SA} (haw : aw = 3 ∨ aw = 4) (h : WFS (E, aw, ar, rel, nw, L) w) (e : ta (E, aw, ar, rel, nw, L) w t = some S2) : WFS S2 (w + 1) := by
  obtain ⟨h1, h | h⟩ := h
  · have := h.1; simp only at this; omega
  · obtain ⟨-, -, hF, hR, hL, -, ha, ha13, ha12, hrel, hnw, hh⟩ := h
    simp only at h1 hF hR hL ha ha13 ha12 hrel hnw hh
    have n5 : ¬ aw = 5 := by omega
    simp only [n5, if_false, Nat.add_zero] at hh
    have ha12 := ha12 (by omega)
    have hb := wa_bound hL
    have hr1 : (if rel = 0 then 0 else 1) ≤ 1 := by split <;> omega
    unfold ta at e
    rcases haw with haw | haw
    · subst haw
      simp only [show ¬ (3 : Nat) = 0 by decide, show ¬ (3 : Nat) = 1 by decide, show ¬ (3 : Nat) = 2 by decide, if_false, if_true] at e
      by_cases c1 : 0 ≤ t ∧ t < 20
      · rw [if_pos c1] at e; cases e
        obtain ⟨v, hv, et⟩ : ∃ v : Nat, v < 20 ∧ t = nI v := by
          obtain ⟨j, hj, rfl⟩ := nI_of (Int32.not_lt.mpr c1.1)
          have e20 : (20 : Int32) = nI 20 := rfl
          rw [e20, nI_ltI (by omega) (by omega)] at c1
          exact ⟨j, c1.2, rfl⟩
        have hcl : t.toNatClampNeg = v := by rw [et]; exact nI_clamp (by omega)
        rw [hcl]
        have hext := emt_ext E 1 v
        have hs := emt_ws (k := 1) (v := v) hF.2.2.2.1 (by omega) (Or.inr (Or.inl ⟨rfl, hv⟩))
        refine enA_wf (by rw [hext.1 4 (by decide)]; exact hF.ext hext hs) (hR.ext hext) (by rw [hext.1 3 (by decide)]; exact hL) ha (by omega) hrel hnw ?_ ?_
        · rw [emt_h]; simp; omega
        · rw [emt_2]; omega
      · rw [if_neg c1] at e; cases e
    · subst haw
      simp only [show ¬ (4 : Nat) = 0 by decide, show ¬ (4 : Nat) = 1 by decide, show ¬ (4 : Nat) = 2 by decide, show ¬ (4 : Nat) = 3 by decide, if_false, if_true] at e
      by_cases c1 : 0 ≤ t ∧ t < nI (E.1 3)
      · rw [if_pos c1] at e; cases e
        obtain ⟨v, hv, et⟩ : ∃ v : Nat, v < E.1 3 ∧ t = nI v := by
          obtain ⟨j, hj, rfl⟩ := nI_of (Int32.not_lt.mpr c1.1)
          have := hF.2.1
          rw [nI_ltI (by omega) (by omega)] at c1
          exact ⟨j, c1.2, rfl⟩
        have hcl : t.toNatClampNeg = v := by rw [et]; exact nI_clamp (by have := hF.2.1; omega)
        rw [hcl]
        exact ⟨by simp only [List.length_cons]; omega, Or.inr ⟨by simp, by simp, hF, hR, ⟨hL, Or.inr (Or.inl ⟨rfl, hv⟩)⟩, fun q => by simp at q, by simp [nAr, isOp, ha], by simp only; omega, fun q => by simp at q, hrel, hnw, by simp [nOp, isOp]; exact hh⟩⟩
      · rw [if_neg c1] at e; cases e
theorem ta_behind {E : Ed} {w ar rel nw : Nat} {L : List (Nat × Nat)} {t : Int32} {S2 : SA} (h : WFS (E, 5, ar, rel, nw, L) w) (e : ta (E, 5, ar, rel, nw, L) w t = some S2) : WFS S2 (w + 1) := by
  obtain ⟨h1, h | h⟩ := h
  · have := h.1; simp at this
  · obtain ⟨-, -, hF, hR, hL, hd2, ha, ha13, ha12, hrel, hnw, hh⟩ := h
    simp only at h1 hF hR hL hd2 ha ha13 ha12 hrel hnw hh
    simp only [if_true] at hh
    have hd2 := hd2 trivial
    have ha12 := ha12 (by decide)
    have hr1 : (if rel = 0 then 0 else 1) ≤ 1 := by split <;> omega
    have st := fun r (hr : 1 ≤ r) => stl_ok (tc := E.1 3) (rho := if rel = 0 then 0 else 1) (r := r) hr (L := L) (E := E) (ar := ar) hL hF.2.2.2.1 rfl ha (by omega) hr1 hh
    have e' : tb E ar rel nw L w t = some S2 := e
    unfold tb at e'
    rcases opk_rng t with ho | ho
    · rw [if_neg (by omega)] at e'
      obtain ⟨i1, i2, i3, i4, i5, i6, i7, i8⟩ := st 1 (by decide)
      have hst := stl_hd (tc := E.1 3) (r := 1) (by decide) (E := E) (ar := ar) hL hd2
      have e3 := i2.1 3 (by decide)
      have e4 := i2.1 4 (by decide)
      obtain ⟨L1, hL1⟩ : ∃ x, x = (stl 1 L E ar).1 := ⟨_, rfl⟩
      obtain ⟨E1, hE1⟩ : ∃ x, x = (stl 1 L E ar).2.1 := ⟨_, rfl⟩
      obtain ⟨a1, ha1⟩ : ∃ x, x = (stl 1 L E ar).2.2 := ⟨_, rfl⟩
      rw [← hL1, ← hE1, ← ha1] at e'
      rw [← hL1] at i3 i4 i6 i7 i8 hst
      rw [← hE1] at i1 i2 i6 i7 e3 e4
      rw [← ha1] at i4 i5
      have hF1 : WF1 E1 (E1.1 4 - 1) := by rw [e4]; exact hF.ext i2 i1
      have hR1 := hR.ext i2
      by_cases c0 : 0 < ar
      · rw [if_pos c0] at e'
        by_cases c1 : t = -9
        · rw [if_pos c1] at e'
          cases hq : L1 with
          | nil => rw [hq] at e'; simp at e'
          | cons x L2 =>
            rw [hq] at e' i3 i4 i6 i7
            simp only at e'
            by_cases cx : x.1 = 3
            · rw [if_pos cx] at e'
              cases e'
              have ho3 : isOp x.1 = false := by rw [cx]; rfl
              simp only [nAr, nOp, ho3, Bool.false_eq_true, if_false, List.length_cons] at i4 i6 i7
              exact enA_wf hF1 hR1 (by rw [e3]; exact i3.1) (by omega) (by omega) hrel hnw (by omega) (by omega)
            · rw [if_neg cx] at e'; cases e'
        · rw [if_neg c1] at e'; cases e'
      · rw [if_neg c0] at e'
        -- nothing lies around: all is settled
        have hL1n : L1 = [] := by
          cases hq : L1 with
          | nil => rfl
          | cons x L2 =>
            exfalso
            have hx := i8 x L2 hq
            rw [hq] at i4 i3 hst
            simp only [hd] at hst
            have hn0 : nAr (x :: L2) = 0 := by omega
            simp only [nAr] at hn0
            have hop : isOp x.1 = true := by
              cases q : isOp x.1 with
              | true => rfl
              | false => simp [q] at hn0
            have hk : 4 ≤ x.1 ∧ x.1 < 9 := by simpa [isOp] using hop
            have := rnk_op hk
            omega
        have ha10 : a1 = 0 := by rw [i4, hL1n]; rfl
        rw [hL1n] at i6 i7 e'
        simp only [nOp, Nat.zero_add, List.length_nil, Nat.add_zero] at i6 i7
        unfold tbS at e'
        by_cases crel : rel = 0
        · subst crel
          rw [if_pos rfl] at e'
          by_cases ct : rlk t = 0
          · rw [if_pos ct] at e'; cases e'
          · rw [if_neg ct] at e'
            cases e'
            have hrk := (rlk_rng t).resolve_left ct
            simp at i6 h1
            refine ⟨by simp only [List.length_nil]; rw [if_neg ct]; omega, Or.inr ⟨by simp, by simp, hF1, hR1, trivial, fun q => by simp at q, by simp only [nAr]; omega, by simp only; omega, fun q => by simp at q, Or.inr hrk, hnw, ?_⟩⟩
            simp only [nOp]
            rw [if_neg ct]
            simp [i6]
        · rw [if_neg crel] at e'
          rw [if_neg crel] at i6 h1
          have hrr := hrel.resolve_left crel
          have hext := emt_ext E1 rel 0
          have hs := emt_ws (k := rel) (v := 0) i1 (by omega) (Or.inr (Or.inr (Or.inr (Or.inr ⟨hrr.1, hrr.2, by omega⟩))))
          have hF2 : WF1 (emt E1 rel 0) ((emt E1 rel 0).1 4 - 1) := by rw [hext.1 4 (by decide)]; exact hF1.ext hext hs
          have hR2 := hR1.ext hext
          have h02 : (emt E1 rel 0).2 2 ((emt E1 rel 0).1 2) = 0 := by
            rw [emt_h]
            have n1 : ¬ rel ≤ 1 := by omega
            have n2 : ¬ rel = 2 := by omega
            have n3 : ¬ rel < 9 := by omega
            simp [n1, n2, n3]
          have h2c := emt_2 E1 rel 0
          obtain ⟨E2, hE2⟩ : ∃ x, x = emt E1 rel 0 := ⟨_, rfl⟩
          rw [← hE2] at hF2 hR2 h02 h2c e'
          by_cases ct : t = -5
          · rw [if_pos ct] at e'
            cases e'
            exact ⟨by simp; omega, Or.inr ⟨by simp, by simp, hF2, hR2, trivial, fun q => by simp at q, by simp only [nAr]; omega, by simp only; omega, fun q => by simp at q, Or.inl rfl, hnw, by simp [nOp, h02]⟩⟩
          · rw [if_neg ct] at e'
            by_cases cn : nw = 1
            · rw [if_pos cn] at e'
              by_cases ct2 : t = -4
              · rw [if_pos ct2] at e'
                cases e'
                have r0 : ∀ q, q ≠ 8 → (bgN E2).2 q = E2.2 q := fun q h => by simp [bgN, setR, h]
                have s0 : (bgN E2).1 = E2.1 := rfl
                obtain ⟨p1, p2, p3, p4, p5, p6, p7⟩ := hR2
                obtain ⟨u1, u2, u3, u4, u5, u6⟩ := hF2
                refine ⟨by simp [s0]; omega, Or.inr ⟨by simp, by simp, ⟨u1, u2, u3, u4.rows rfl (Nat.le_refl _) (r0 0 (by decide)) (r0 1 (by decide)) (r0 2 (by decide)), fun t ht => ?_, fun k hk => ?_⟩, ?_, trivial, fun q => by simp at q, by simp only [nAr]; omega, by simp only; omega, fun q => by simp at q, Or.inl rfl, Or.inl rfl, by simp [nOp, s0, r0 2 (by decide), h02]⟩⟩
                · have := u5 t ht
                  unfold WT at this ⊢
                  rw [r0 3 (by decide), r0 4 (by decide)]
                  exact this
                · have hk2 : k ≠ E2.1 4 - 1 := by
                    have : k < E2.1 4 - 1 := hk
                    omega
                  have := u6 k hk
                  unfold WR at this ⊢
                  rw [r0 6 (by decide), r0 9 (by decide), r0 2 (by decide), r0 10 (by decide)]
                  simp [bgN, setR, hk2]
                  exact this
                · unfold RP
                  rw [r0 6 (by decide), r0 2 (by decide), r0 10 (by decide)]
                  have q7 := p7 cn
                  simp [bgN, setR]
                  refine ⟨p1, by omega, p4, h02, fun q => by omega⟩
              · rw [if_neg ct2] at e'; cases e'
            · rw [if_neg cn] at e'
              by_cases ct2 : t = -19
              · rw [if_pos ct2] at e'
                cases e'
                have r0 : ∀ q, q ≠ 7 → q ≠ 9 → (edR E2 w).2 q = E2.2 q := fun q h h2 => by simp [edR, setR, h, h2]
                have s0 : (edR E2 w).1 = E2.1 := rfl
                obtain ⟨p1, p2, p3, p4, p5, p6, p7⟩ := hR2
                obtain ⟨u1, u2, u3, u4, u5, u6⟩ := hF2
                refine ⟨by simp [s0]; omega, Or.inl ⟨by simp, ⟨u1, u2, u3, u4.rows rfl (Nat.le_refl _) (r0 0 (by decide) (by decide)) (r0 1 (by decide) (by decide)) (r0 2 (by decide) (by decide)), fun t ht => ?_, fun k hk => ?_⟩, rfl, by simp only; omega, rfl, by simp [s0, r0 2 (by decide) (by decide), h02], fun q => by simp at q⟩⟩
                · have := u5 t ht
                  unfold WT at this ⊢
                  rw [r0 3 (by decide) (by decide), r0 4 (by decide) (by decide)]
                  exact this
                · have hk1 : k < E2.1 4 := hk
                  unfold WR
                  rw [r0 6 (by decide) (by decide), r0 8 (by decide) (by decide), r0 2 (by decide) (by decide), r0 10 (by decide) (by decide)]
                  by_cases ck : k = E2.1 4 - 1
                  · rw [ck]
                    simp [edR, setR]
                    exact ⟨p2, p3, p4, p5, p6⟩
                  · have := u6 k (by omega)
                    unfold WR at this
                    simp [edR, setR, ck]
                    exact this
              · rw [if_neg ct2] at e'; cases e'
    · rw [if_pos (by omega)] at e'
      cases e'
      obtain ⟨i1, i2, i3, i4, i5, i6, i7, i8⟩ := st (rnkK (opk t)) (rnk_op ho).1
      have hst := stl_hd (tc := E.1 3) (r := rnkK (opk t)) (rnk_op ho).1 (E := E) (ar := ar) hL hd2
      have e3 := i2.1 3 (by decide)
      have e4 := i2.1 4 (by decide)
      have hop : isOp (opk t) = true := by simp [isOp]; omega
      refine ⟨by simp only [List.length_cons]; omega, Or.inr ⟨by simp, by simp, by rw [e4]; exact hF.ext i2 i1, hR.ext i2, by simp only; rw [e3]; exact wa_push ho rfl i3 (Or.inl hst) i8, fun q => by simp at q, by simp only [nAr, hop, if_true]; omega, by simp only; omega, fun q => by simp at q, hrel, hnw, ?_⟩⟩
      simp only [nOp, hop, if_true]
      rw [i6]
      simp
      omega
theorem ta_wf {S S2 : SA} {w : Nat} {t : Int32} (ht : 0 ≤ t → t.toNatClampNeg < 1000000000) (h : WFS S w) (e : ta S w t = some S2) : WFS S2 (w + 1) := by
  obtain ⟨E, aw, ar, rel, nw, L⟩ := S
  have haw : aw = 0 ∨ aw = 1 ∨ aw = 2 ∨ aw = 3 ∨ aw = 4 ∨ aw = 5 := by
    rcases h.2 with q | q
    · have := q.1; simp only at this; omega
    · have h1 := q.1; have h2 := q.2.1; simp only at h1 h2; omega
  rcases haw with q | q | q | q | q | q
  · subst q; exact ta_item h e
  · subst q; exact ta_num ht h e
  · subst q; exact ta_atom ht h e
  · exact ta_names (Or.inl q) h e
  · exact ta_names (Or.inr q) h e
  · subst q; exact ta_behind h e
