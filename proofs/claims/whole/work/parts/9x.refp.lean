/-! THE REFERENCE READS AS THE AUTOMATON -/
def FrY (e : Nat) (m m2 : MS) : Prop := FrM m m2 [21, 23, 24] [19, 20, 25, 26] [] ∧ ∀ j, j < 400 * e → m2.2.1 19 j = m.2.1 19 j ∧ m2.2.1 20 j = m.2.1 20 j
theorem FrY.refl (e : Nat) (m : MS) : FrY e m m := ⟨FrM.refl m _ _ _, fun _ _ => ⟨rfl, rfl⟩⟩
theorem FrY.trans {e : Nat} {m m2 m3 : MS} (h : FrY e m m2) (g : FrY e m2 m3) : FrY e m m3 := ⟨h.1.trans g.1, fun j hj => ⟨((g.2 j hj).1).trans (h.2 j hj).1, ((g.2 j hj).2).trans (h.2 j hj).2⟩⟩
/-- what stays while a rule is read -/
def Fx (m : MS) (e W : Nat) (tok : Nat → Int32) (tc : Nat) : Prop := m.1 22 = nI e ∧ e < 6 ∧ m.2.1 9 e = nI W ∧ W ≤ 400 ∧ (∀ i, i < W → m.2.1 8 (400 * e + i) = tok i) ∧ m.2.1 10 e = nI tc
theorem Fx.fr {m m2 : MS} {e W tc : Nat} {tok : Nat → Int32} (h : Fx m e W tok tc) (g : FrY e m m2) : Fx m2 e W tok tc := by
  unfold Fx
  rw [g.1.1 22 (by decide), g.1.2.1 9 (by decide), g.1.2.1 8 (by decide), g.1.2.1 10 (by decide)]
  exact h
def SN (m : MS) (e : Nat) (E : Ed) : Prop := ∀ i, i < E.1 2 → m.2.1 19 (400 * e + i) = rk (E.2 0 i) ∧ (E.2 0 i ≤ 2 → m.2.1 20 (400 * e + i) = nI (E.2 1 i))
def Q (m : MS) (e : Nat) (E : Ed) (w : Nat) : Prop := m.1 21 = nI (E.1 2) ∧ m.1 23 = nI w ∧ m.1 24 = -1 ∧ SN m e E
def tw (tok : Nat → Int32) (W w : Nat) : Int32 := if w < W then tok w else -20
/-- what waits, as the reference keeps it -/
def Sg (m : MS) : List (Nat × Nat) → Prop
  | [] => True
  | x :: L => m.2.1 25 L.length = rk x.1 ∧ (x.1 = 2 → m.2.1 26 L.length = nI x.2) ∧ Sg m L
theorem Sg.of {m m2 : MS} (h1 : m2.2.1 25 = m.2.1 25) (h2 : m2.2.1 26 = m.2.1 26) : ∀ {L : List (Nat × Nat)}, Sg m L → Sg m2 L := by
  intro L
  induction L with
  | nil => intro _; trivial
  | cons x L ih =>
    intro h
    simp only [Sg] at h ⊢
    rw [h1, h2]
    exact ⟨h.1, h.2.1, ih h.2.2⟩
theorem Sg.up {m m2 : MS} {n : Nat} (h1 : ∀ i, i < n → m2.2.1 25 i = m.2.1 25 i) (h2 : ∀ i, i < n → m2.2.1 26 i = m.2.1 26 i) : ∀ {L : List (Nat × Nat)}, L.length ≤ n → Sg m L → Sg m2 L := by
  intro L
  induction L with
  | nil => intro _ _; trivial
  | cons x L ih =>
    intro hl h
    simp only [List.length_cons] at hl
    simp only [Sg] at h ⊢
    rw [h1 _ (by omega), h2 _ (by omega)]
    exact ⟨h.1, h.2.1, ih (by omega) h.2.2⟩
def nBr : List (Nat × Nat) → Nat
  | [] => 0
  | x :: L => nBr L + if x.1 = 3 then 1 else 0
theorem opk_t (t : Int32) : opk t = 0 ∨ (4 ≤ opk t ∧ opk t < 9 ∧ t = rk (opk t)) := by
  unfold opk
  repeat' split
  all_goals first
    | (left; rfl)
    | (right; refine ⟨by omega, by omega, ?_⟩; assumption)
theorem rlk_t (t : Int32) : rlk t = 0 ∨ (9 ≤ rlk t ∧ rlk t ≤ 12 ∧ t = rk (rlk t)) := by
  unfold rlk
  repeat' split
  all_goals first
    | (left; rfl)
    | (right; refine ⟨by omega, by omega, ?_⟩; assumption)
theorem i32_of (t : Int32) (z : Int) (h : t.toInt = z) (x : Int32) (hx : x.toInt = z) : t = x := Int32.toInt_inj.mp (h.trans hx.symm)
theorem isOp_t {F : Nat} {m : MS} (t : Int32) : N_Mo_isOperator F m t = some (if opk t = 0 then 0 else 1, m) := by
  rcases opk_t t with h | ⟨h1, h2, h3⟩
  · rw [if_pos h]
    unfold N_Mo_isOperator
    by_cases c1 : (-10 : Int32) < t
    · rw [if_pos c1]
    · rw [if_neg c1]
      by_cases c2 : t ≤ (-15 : Int32)
      · rw [if_pos c2]
      · exfalso
        rw [Int32.lt_iff_toInt_lt] at c1
        rw [Int32.le_iff_toInt_le] at c2
        have e1 : (-10 : Int32).toInt = -10 := by decide
        have e2 : (-15 : Int32).toInt = -15 := by decide
        rw [e1] at c1
        rw [e2] at c2
        have hc : t.toInt = -10 ∨ t.toInt = -11 ∨ t.toInt = -12 ∨ t.toInt = -13 ∨ t.toInt = -14 := by omega
        rcases hc with q | q | q | q | q
        · rw [i32_of t _ q (-10) (by decide)] at h; exact absurd h (by decide)
        · rw [i32_of t _ q (-11) (by decide)] at h; exact absurd h (by decide)
        · rw [i32_of t _ q (-12) (by decide)] at h; exact absurd h (by decide)
        · rw [i32_of t _ q (-13) (by decide)] at h; exact absurd h (by decide)
        · rw [i32_of t _ q (-14) (by decide)] at h; exact absurd h (by decide)
  · have h0 : ¬ opk t = 0 := by omega
    rw [if_neg h0, h3, isOp_eq (by omega), if_pos ⟨h1, h2⟩]
theorem isPr_eq {F : Nat} {m : MS} {k : Nat} (h : 4 ≤ k ∧ k < 9) : N_Mo_isProduct F m (rk k) = some (if rnkK k = 2 then 1 else 0, m) := by
  have : k = 4 ∨ k = 5 ∨ k = 6 ∨ k = 7 ∨ k = 8 := by omega
  rcases this with e | e | e | e | e <;> subst e <;> rfl
section REFP
variable {F : Nat} {m : MS} {e W tc : Nat} {tok : Nat → Int32} {E : Ed} {w : Nat}
theorem now_eq (h : Fx m e W tok tc) (h23 : m.1 23 = nI w) (hw : w ≤ 400) : N_Mo_now F m = some (tw tok W w, m) := by
  obtain ⟨h1, h2, h3, h4, h5, h6⟩ := h
  have a1 : ¬ (nI e < 0 ∨ 6 ≤ (nI e).toNatClampNeg) := nI_in (by omega) (by decide)
  have a2 : (nI e).toNatClampNeg = e := nI_clamp (by omega)
  have a3 : nI (400 * e) + nI w = nI (400 * e + w) := nI_add _ _
  unfold N_Mo_now tw
  rw [h1, if_neg a1, a2, h3, h23, nI_400, a3]
  by_cases c : w < W
  · have b1 : ¬ nI W ≤ nI w := nI_ge c (by omega)
    have b2 : ¬ (nI (400 * e + w) < 0 ∨ 2400 ≤ (nI (400 * e + w)).toNatClampNeg) := nI_in (by omega) (by decide)
    have b3 : (nI (400 * e + w)).toNatClampNeg = 400 * e + w := nI_clamp (by omega)
    rw [if_neg b1, if_neg b2, b3, h5 w c, if_pos c]
  · have b1 : nI W ≤ nI w := nI_le (by omega) (by omega)
    rw [if_pos b1, if_neg c]
theorem want_1 (h : m.1 24 = -1) {x : Int32} (hx : x ≠ 0) : N_Mo_want F m x = some (1, m) := by
  simp [N_Mo_want, hx, N_Mo_want_19, h]
theorem want_0 (h : m.1 24 = -1) (h23 : m.1 23 = nI w) (hw : w ≤ 400) : N_Mo_want F m 0 = some (0, sPut m 24 (nI w)) := by
  have h0 : 0 ≤ nI w := nI_pos' (by omega)
  have n0 : ¬ (0 : Int32) ≤ -1 := by decide
  simp [N_Mo_want, h, h23, N_Mo_want_19, sPut, upd, h0]
theorem FrY.p24 (e : Nat) (m : MS) (v : Int32) : FrY e m (sPut m 24 v) := ⟨(FrM.put m 24 v).mono (by simp) (by simp) (by simp), fun _ _ => ⟨rfl, rfl⟩⟩
theorem FrY.p23 (e : Nat) (m : MS) (v : Int32) : FrY e m (sPut m 23 v) := ⟨(FrM.put m 23 v).mono (by simp) (by simp) (by simp), fun _ _ => ⟨rfl, rfl⟩⟩
theorem Q.adv {v : Nat} (h : Q m e E w) : Q (sPut m 23 (nI v)) e E v := ⟨by simp [sPut, upd]; exact h.1, by simp [sPut, upd], by simp [sPut, upd]; exact h.2.2.1, h.2.2.2⟩
theorem put_eq (hx : Fx m e W tok tc) (h : Q m e E w) (h4 : E.1 2 < 400) (k v : Nat) {x y : Int32} (ex : x = rk k) (ey : k ≤ 2 → y = nI v) : ∃ m2, N_Mo_put F m x y = some m2 ∧ FrY e m m2 ∧ Q m2 e (emt E k v) w ∧ m2.2.1 25 = m.2.1 25 ∧ m2.2.1 26 = m.2.1 26 := by
  obtain ⟨q1, q2, q3, q4⟩ := h
  obtain ⟨h1, h2, -⟩ := hx
  have a3 : nI (400 * e) + nI (E.1 2) = nI (400 * e + E.1 2) := nI_add _ _
  have b2 : ¬ (nI (400 * e + E.1 2) < 0 ∨ 2400 ≤ (nI (400 * e + E.1 2)).toNatClampNeg) := nI_in (by omega) (by decide)
  have b3 : (nI (400 * e + E.1 2)).toNatClampNeg = 400 * e + E.1 2 := nI_clamp (by omega)
  refine ⟨sPut (sStI (sStI m 19 (400 * e + E.1 2) x) 20 (400 * e + E.1 2) y) 21 (nI (E.1 2 + 1)), ?_, ⟨⟨fun j hj => ?_, fun j hj => ?_, fun _ _ => rfl⟩, fun j hj => ?_⟩, ⟨?_, ?_, ?_, fun i hi => ?_⟩, by simp [sPut, sStI], by simp [sPut, sStI]⟩
  · have e1 : (sStI m 19 (400 * e + E.1 2) x).1 = m.1 := rfl
    have e2 : (sStI (sStI m 19 (400 * e + E.1 2) x) 20 (400 * e + E.1 2) y).1 = m.1 := rfl
    unfold N_Mo_put
    rw [h1, q1, nI_400, a3, if_neg b2, b3, Option.bind_some, e1, h1, q1, nI_400, a3, if_neg b2, b3, Option.bind_some, e2, q1, nI_1, Option.bind_some]
  · simp at hj; simp [sPut, sStI, upd, hj]
  · simp at hj; simp [sPut, sStI, hj]
  · have : j ≠ 400 * e + E.1 2 := by omega
    simp [sPut, sStI, upd, this]
  · rw [emt_2]; simp [sPut, upd]
  · simp [sPut, sStI, upd, q2]
  · simp [sPut, sStI, upd, q3]
  · rw [emt_2] at hi
    by_cases c : i = E.1 2
    · subst c
      obtain ⟨a1, a2⟩ := emt_at E k v
      rw [a1, a2]
      simp [sPut, sStI, upd, ex]
      exact ey
    · obtain ⟨a1, a2⟩ := (emt_ext E k v).2.2.2.1 i (by omega)
      have := q4 i (by omega)
      rw [a1, a2]
      simp [sPut, sStI, upd, c]
      exact this
theorem rk_7 {k : Nat} (h : k ≤ 8) : (rk k = -7 ↔ k = 2) ∧ (rk k = -8 ↔ k = 3) := by
  have : k = 0 ∨ k = 1 ∨ k = 2 ∨ k = 3 ∨ k = 4 ∨ k = 5 ∨ k = 6 ∨ k = 7 ∨ k = 8 := by omega
  rcases this with e | e | e | e | e | e | e | e | e <;> subst e <;> decide
theorem rnk3 {k : Nat} (h : k ≤ 8) : rnkK k < 3 ↔ k ≠ 2 := by
  have : k = 0 ∨ k = 1 ∨ k = 2 ∨ k = 3 ∨ k = 4 ∨ k = 5 ∨ k = 6 ∨ k = 7 ∨ k = 8 := by omega
  rcases this with e | e | e | e | e | e | e | e | e <;> subst e <;> decide
/-- places end -/
theorem pop_places {r9 r249 : MS → Int32 → Int32 → Int32 → Int32 → Option MS} {br : Int32} : ∀ (L : List (Nat × Nat)) (E : Ed) (ar z : Nat) (m : MS), Fx m e W tok tc → Q m e E w → Sg m L → wa tc L → ar = nAr L → E.1 2 + L.length ≤ 400 → L.length < z →
    ∃ m2, N_Mo_sum_254 F r9 r249 z m (nI L.length) (nI ar) br = N_Mo_sum_292 F r9 r249 m2 (nI (stl 3 L E ar).1.length) (nI (stl 3 L E ar).2.2) br ∧ FrY e m m2 ∧ Q m2 e (stl 3 L E ar).2.1 w ∧ Sg m2 (stl 3 L E ar).1 := by
  intro L
  induction L with
  | nil =>
    intro E ar z m hx h hs _ _ _ hz
    obtain ⟨z, rfl⟩ : ∃ y, z = y + 1 := ⟨z - 1, by omega⟩
    refine ⟨m, ?_, FrY.refl e m, h, hs⟩
    show BN_Mo_sum_254 F r9 r249 _ m (nI 0) (nI ar) br = _
    unfold BN_Mo_sum_254
    rw [if_pos (by decide)]
    rfl
  | cons x L ih =>
    intro E ar z m hx h hs hw ha hb hz
    obtain ⟨z, rfl⟩ : ∃ y, z = y + 1 := ⟨z - 1, by omega⟩
    obtain ⟨k, v⟩ := x
    obtain ⟨k2, k8⟩ := wa_k hw
    simp only at k2 k8
    simp only [List.length_cons] at hb hz ⊢
    obtain ⟨s1, s2, s3⟩ := hs
    simp only at s1 s2
    have a1 : ¬ nI (L.length + 1) ≤ 0 := nI_nle (by omega) (by omega)
    have a2 : ¬ (nI L.length < 0 ∨ 500 ≤ (nI L.length).toNatClampNeg) := nI_in (by omega) (by decide)
    have a3 : (nI L.length).toNatClampNeg = L.length := nI_clamp (by omega)
    have hr := rnk3 k8
    simp only [stl]
    show ∃ m2, BN_Mo_sum_254 F r9 r249 (N_Mo_sum_254 F r9 r249 z) m (nI (L.length + 1)) (nI ar) br = _ ∧ _
    unfold BN_Mo_sum_254
    rw [if_neg a1, nI_pred, if_neg a2, a3, s1, nI_m1, if_neg a2, a3]
    by_cases c : k = 2
    · have c' : ¬ rnkK k < 3 := fun q => (hr.mp q) c
      simp only [c', if_false]
      subst c
      have ho : isOp 2 = false := rfl
      simp only [nAr, ho, Bool.false_eq_true, if_false] at ha
      obtain ⟨m1, x1, f1, q1, g1, g2⟩ := put_eq (F := F) hx h (by omega) 2 v (x := -7) (y := m.2.1 26 L.length) rfl (fun _ => s2 rfl)
      obtain ⟨m2, x2, f2, q2, g3⟩ := ih (emt E 2 v) (ar - 1) z m1 (hx.fr f1) q1 (s3.of g1 g2) hw.1 (by omega) (by rw [emt_2]; omega) (by omega)
      refine ⟨m2, ?_, f1.trans f2, q2, g3⟩
      have har : nI ar + (-1) = nI (ar - 1) := by
        obtain ⟨j, hj⟩ : ∃ j, ar = j + 1 := ⟨ar - 1, by omega⟩
        rw [hj, nI_m1]; rfl
      rw [if_pos (show rk 2 = -7 from rfl), x1, Option.bind_some, har, x2]
      simp
    · have c' : rnkK k < 3 := hr.mpr c
      have c2 : ¬ rk k = -7 := fun q => c ((rk_7 k8).1.mp q)
      simp only [c', if_true]
      exact ⟨m, by rw [if_neg c2]; rfl, FrY.refl e m, h, s1, s2, s3⟩
/-- a bracket is closed -/
theorem pop_close {r9 r249 : MS → Int32 → Int32 → Int32 → Int32 → Option MS} {ar br : Nat} {x6 : Int32} : ∀ (L : List (Nat × Nat)) (E : Ed) (z : Nat) (m : MS), Fx m e W tok tc → Q m e E w → Sg m L → wa tc L → hd L ≠ 2 → 0 < nAr L → E.1 2 + L.length ≤ 400 → L.length < z →
    ∃ m2 v L2, (stl 1 L E ar).1 = (3, v) :: L2 ∧ (stl 1 L E ar).2.2 = ar ∧ N_Mo_sum_317 F r9 r249 z m (nI L.length) (nI ar) (nI br) x6 = r249 m2 (nI L2.length) (nI ar + (-1)) (nI br + (-1)) x6 ∧ FrY e m m2 ∧ Q m2 e (stl 1 L E ar).2.1 (w + 1) ∧ Sg m2 L2 ∧ nBr L2 + 1 = nBr L := by
  intro L
  induction L with
  | nil => intro E z m _ _ _ _ _ hn; simp [nAr] at hn
  | cons x L ih =>
    intro E z m hx h hs hw hd0 hn hb hz
    obtain ⟨z, rfl⟩ : ∃ y, z = y + 1 := ⟨z - 1, by omega⟩
    obtain ⟨k, v⟩ := x
    obtain ⟨k2, k8⟩ := wa_k hw
    simp only at k2 k8
    simp only [List.length_cons] at hb hz ⊢
    simp only [hd] at hd0
    obtain ⟨s1, s2, s3⟩ := hs
    simp only at s1 s2
    have a2 : ¬ (nI L.length < 0 ∨ 500 ≤ (nI L.length).toNatClampNeg) := nI_in (by omega) (by decide)
    have a3 : (nI L.length).toNatClampNeg = L.length := nI_clamp (by omega)
    simp only [stl]
    show ∃ m2 v2 L2, _ ∧ _ ∧ BN_Mo_sum_317 F r9 r249 (N_Mo_sum_317 F r9 r249 z) m (nI (L.length + 1)) (nI ar) (nI br) x6 = _ ∧ _
    unfold BN_Mo_sum_317
    rw [nI_pred, if_neg a2, a3, s1, nI_m1, if_neg a2, a3]
    by_cases c : k = 3
    · subst c
      have c1 : rnkK 3 < 1 := by decide
      simp only [c1, if_true]
      refine ⟨sPut m 23 (nI (w + 1)), v, L, rfl, trivial, ?_, FrY.p23 e m _, h.adv, Sg.of (m := m) (by rfl) (by rfl) s3, by simp [nBr]⟩
      rw [if_pos (show rk 3 = -8 from rfl), h.2.1, nI_1, Option.bind_some]
    · have hop : 4 ≤ k ∧ k < 9 := by omega
      have c1 : ¬ rnkK k < 1 := by have := rnk_op hop; omega
      have c2 : ¬ rk k = -8 := fun q => c ((rk_7 k8).2.mp q)
      have ck2 : ¬ k = 2 := by omega
      simp only [c1, if_false, ck2]
      have ho : isOp k = true := by simp [isOp]; omega
      simp only [nAr, ho, if_true, Nat.add_zero] at hn
      have hd1 : hd L ≠ 2 := by
        rcases hw.2 with ⟨q, -⟩ | ⟨q, -⟩ | ⟨-, -, q⟩ | ⟨-, -, q⟩
        · exact absurd q c
        · exact absurd q ck2
        · omega
        · omega
      have hk2 : ¬ k ≤ 2 := by omega
      have hv0 : v = 0 := by
        rcases hw.2 with ⟨q, -⟩ | ⟨q, -⟩ | ⟨-, q, -⟩ | ⟨-, q, -⟩
        · exact absurd q c
        · exact absurd q ck2
        · exact q
        · exact q
      obtain ⟨m1, x1, f1, q1, g1, g2⟩ := put_eq (F := F) hx h (by omega) k v (x := rk k) (y := 0) rfl (fun q => absurd q hk2)
      obtain ⟨m2, v2, L2, y1, y2, y3, y4, y5, y6, y7⟩ := ih (emt E k v) z m1 (hx.fr f1) q1 (s3.of g1 g2) hw.1 hd1 hn (by rw [emt_2]; omega) (by omega)
      refine ⟨m2, v2, L2, y1, y2, ?_, f1.trans y4, y5, y6, ?_⟩
      · rw [if_neg c2, s1, x1, Option.bind_some, y3]
      · simp [nBr, c]; exact y7
end REFP
