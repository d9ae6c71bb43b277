/-! byCatch -/
/-- Euclid's way ends within k steps -/
def Eu : Nat → Nat → Nat → Prop
  | 0, _, b => b = 0
  | k + 1, a, b => b = 0 ∨ Eu k b (a % b)
theorem Eu.up : ∀ (k a b : Nat), Eu k a b → Eu (k + 1) a b := by
  intro k
  induction k with
  | zero => intro a b h; exact Or.inl h
  | succ k ih =>
    intro a b h
    rcases h with h | h
    · exact Or.inl h
    · exact Or.inr (ih _ _ h)
theorem Eu_ends : ∀ (j a b : Nat), b < 2 ^ j → Eu (2 * j) a b := by
  intro j
  induction j with
  | zero => intro a b h; exact (by simpa using h : b = 0)
  | succ j ih =>
    intro a b h
    show Eu (2 * j + 1 + 1) a b
    by_cases hb : b = 0
    · exact Or.inl hb
    · refine Or.inr ?_
      by_cases hr : a % b = 0
      · exact Or.inl hr
      · refine Or.inr (ih _ _ ?_)
        have h1 : a % b < b := Nat.mod_lt _ (by omega)
        have h2 : b % (a % b) < a % b := Nat.mod_lt _ (by omega)
        have h3 : 2 * (b % (a % b)) < b := by
          have h4 := Nat.div_add_mod b (a % b)
          have h5 : 1 ≤ b / (a % b) := Nat.div_pos (by omega) (by omega)
          have h6 : (a % b) * 1 ≤ (a % b) * (b / (a % b)) := Nat.mul_le_mul_left _ h5
          omega
        rw [Nat.pow_succ] at h
        omega
theorem lN0 : (0 : Int64) = lN 0 := rfl
theorem X_gcd_loop {F : Nat} {s : XS} : ∀ (k z i a b : Nat), Eu k a b → a < 2 ^ 62 → b < 2 ^ 62 → i + k ≤ 200 → k < z → X_Hauls_greatestDivisor_9 F z s (lN a) (lN b) (nI i) = some (lN (Nat.gcd b a), s) := by
  intro k
  induction k with
  | zero =>
    intro z i a b hE ha hb hi hz
    obtain ⟨z, rfl⟩ : ∃ y, z = y + 1 := ⟨z - 1, by omega⟩
    have hE : b = 0 := hE
    subst hE
    show BX_Hauls_greatestDivisor_9 F _ s _ _ _ = _
    have e1 : lg_cmp (lN 0) 0 = 0 := cmpL_eq.mpr rfl
    by_cases h : (200 : Int32) ≤ nI i
    · simp [BX_Hauls_greatestDivisor_9, h]
    · simp [BX_Hauls_greatestDivisor_9, h, e1]
  | succ k ih =>
    intro z i a b hE ha hb hi hz
    obtain ⟨z, rfl⟩ : ∃ y, z = y + 1 := ⟨z - 1, by omega⟩
    show BX_Hauls_greatestDivisor_9 F _ s _ _ _ = _
    have h : ¬ (200 : Int32) ≤ nI i := nI_ge (b := 200) (by omega) (by decide)
    by_cases h0 : b = 0
    · subst h0
      have e1 : lg_cmp (lN 0) 0 = 0 := cmpL_eq.mpr rfl
      simp [BX_Hauls_greatestDivisor_9, h, e1]
    · have hE : Eu k b (a % b) := hE.resolve_left h0
      have n0 : ¬ lN b = 0 := by rw [lN0, pk_lEQ (by omega) (by omega)]; exact h0
      have e1 : ¬ lg_cmp (lN b) 0 = 0 := fun q => n0 (cmpL_eq.mp q)
      have hm : a % b < b := Nat.mod_lt _ (by omega)
      have hr : lN a - lN a / lN b * lN b = lN (a % b) := pk_lRem (by omega) (by omega) (by omega)
      have h9 := ih z (i + 1) b (a % b) hE hb (by omega) (by omega) (by omega)
      rw [← nI_1] at h9
      simp only [BX_Hauls_greatestDivisor_9, h, e1, n0, if_false, hr, h9]
      rw [← Nat.gcd_rec b a]
theorem N_gcd_loop {F : Nat} {m : MS} {x y p4 : Int32} {t : Int64} : ∀ (k z a b : Nat), Eu k a b → a < 2 ^ 62 → b < 2 ^ 62 → k < z → N_Mo_byCatch_102 F z m x y p4 t (lN a) (lN b) = BN_Mo_byCatch_102 F (N_Mo_byCatch_102 F 0) m x y p4 t (lN (Nat.gcd b a)) (lN 0) := by
  intro k
  induction k with
  | zero =>
    intro z a b hE ha hb hz
    obtain ⟨z, rfl⟩ : ∃ y, z = y + 1 := ⟨z - 1, by omega⟩
    have hE : b = 0 := hE
    subst hE
    have e1 : lg_cmp (lN 0) 0 ≤ 0 := cmpL_le.mpr (Int64.le_refl _)
    show BN_Mo_byCatch_102 F _ m x y p4 t _ _ = _
    simp [BN_Mo_byCatch_102, e1]
  | succ k ih =>
    intro z a b hE ha hb hz
    obtain ⟨z, rfl⟩ : ∃ y, z = y + 1 := ⟨z - 1, by omega⟩
    by_cases h0 : b = 0
    · subst h0
      have e1 : lg_cmp (lN 0) 0 ≤ 0 := cmpL_le.mpr (Int64.le_refl _)
      show BN_Mo_byCatch_102 F _ m x y p4 t _ _ = _
      simp [BN_Mo_byCatch_102, e1]
    · have hE : Eu k b (a % b) := hE.resolve_left h0
      have n0 : ¬ lN b = 0 := by rw [lN0, pk_lEQ (by omega) (by omega)]; exact h0
      have e1 : ¬ lg_cmp (lN b) 0 ≤ 0 := fun q => by
        have := cmpL_le.mp q
        rw [lN0, pk_lLE (by omega) (by omega)] at this
        omega
      have hm : a % b < b := Nat.mod_lt _ (by omega)
      have hr : lN a - lN a / lN b * lN b = lN (a % b) := pk_lRem (by omega) (by omega) (by omega)
      have h9 := ih z b (a % b) hE hb (by omega) (by omega)
      rw [Nat.gcd_rec b a, ← h9]
      show BN_Mo_byCatch_102 F _ m x y p4 t _ _ = _
      simp only [BN_Mo_byCatch_102, e1, n0, if_false, hr]
def totN (v : Nat → Nat) (p : Nat) : Nat → Nat → Nat → Nat
  | 0, _, c => c
  | k + 1, i, c => totN v p k (i + 1) (c + v (8 * p + i))
theorem totN_le {v : Nat → Nat} {p B : Nat} (hp : p < 10) (hv : ∀ j, j < 80 → v j ≤ B) : ∀ (k i c : Nat), i + k ≤ 8 → c ≤ totN v p k i c ∧ totN v p k i c ≤ c + k * B := by
  intro k
  induction k with
  | zero => intro i c _; simp [totN]
  | succ k ih =>
    intro i c hi
    have h1 := ih (i + 1) (c + v (8 * p + i)) (by omega)
    have h2 := hv (8 * p + i) (by omega)
    have h3 : (k + 1) * B = k * B + B := Nat.succ_mul k B
    simp only [totN]
    omega
theorem totN_ge {v : Nat → Nat} {p : Nat} : ∀ (k i c q : Nat), i ≤ q → q < i + k → c + v (8 * p + q) ≤ totN v p k i c := by
  intro k
  induction k with
  | zero => intro i c q h1 h2; omega
  | succ k ih =>
    intro i c q h1 h2
    simp only [totN]
    by_cases h : q = i
    · subst h
      clear ih
      have : ∀ (k i c : Nat), c ≤ totN v p k i c := by
        intro k
        induction k with
        | zero => intro i c; simp [totN]
        | succ k ih => intro i c; simp only [totN]; have := ih (i + 1) (c + v (8 * p + i)); omega
      exact this _ _ _
    · have := ih (i + 1) (c + v (8 * p + i)) q (by omega) (by omega)
      omega
section SHARE
variable {F : Nat} {s : XS} {a : Nat → Nat} {n : Nat} {rc : Nat → Nat} {m : MS}
theorem X_gramsOf_eq (H : Sh s a n rc) {v : Nat → Nat} {B : Nat} (h : SimH s a m v B) {p k : Nat} (hp : p < 10) (hk : k < 8) : X_Hauls_gramsOf F s (a 19) (nI p) (nI k) = some (lN (v (8 * p + k)), s) := by
  have t19 : xT s (a 19) = 5 := H.t 19
  have r19_0 : xR s (a 19) 0 = some (a 20) := H.r 19 0
  have t20 : xT s (a 20) = 23 := H.t 20
  have l20 : xL s (a 20) = 80 := H.l 20
  have c1 : ¬ nI (8 * p + k) < 0 := nI_pos (by omega)
  have c2 : ¬ nI 80 ≤ nI (8 * p + k) := nI_ge (by omega) (by decide)
  have e80 : Int32.ofNat 80 = nI 80 := rfl
  have cc : (nI (8 * p + k)).toNatClampNeg = 8 * p + k := nI_clamp (by omega)
  have c3 : ¬ 80 ≤ 8 * p + k := by omega
  simp [X_Hauls_gramsOf, placeX, c1, xGetA, t19, r19_0, xLen, t20, l20, e80, c2, xLdL, cc, c3, (h (8 * p + k) (by omega)).1, xpT, xpL, xpI, xpR, xpA, xpJ, xpO, xpZ, xInt, xN]
theorem X_total_loop (H : Sh s a n rc) {v : Nat → Nat} {B : Nat} (h : SimH s a m v B) {p : Nat} (hp : p < 10) : ∀ (k z i c : Nat), i + k = 8 → k < z → X_Hauls_total_5 F z s (a 19) (nI p) (lN c) (nI i) = some (lN (totN v p k i c), s) := by
  have t19 : xT s (a 19) = 5 := H.t 19
  have r19_0 : xR s (a 19) 0 = some (a 20) := H.r 19 0
  intro k
  induction k with
  | zero =>
    intro z i c hi hz
    obtain ⟨z, rfl⟩ : ∃ y, z = y + 1 := ⟨z - 1, by omega⟩
    have : i = 8 := by omega
    subst this
    have e8 : (8 : Int32) ≤ nI 8 := by decide
    show BX_Hauls_total_5 F _ s _ _ _ _ = _
    simp [BX_Hauls_total_5, e8, totN]
  | succ k ih =>
    intro z i c hi hz
    obtain ⟨z, rfl⟩ : ∃ y, z = y + 1 := ⟨z - 1, by omega⟩
    have h1 : ¬ (8 : Int32) ≤ nI i := nI_ge (b := 8) (by omega) (by decide)
    have h9 := ih z (i + 1) (c + v (8 * p + i)) (by omega) (by omega)
    rw [← nI_1, ← lN_add] at h9
    show BX_Hauls_total_5 F _ s _ _ _ _ = _
    simp [BX_Hauls_total_5, h1, xIs, t19, X_gramsOf_eq H h hp (show i < 8 by omega), h9, totN]
theorem N_total_loop {v : Nat → Nat} {B : Nat} (h : SimH s a m v B) {p : Nat} (hp : p < 10) {y w : Int32} {g : MS} (hg : g.2.2 = m.2.2) : ∀ (k z i c : Nat), i + k = 8 → k < z → N_Mo_byCatch_44 F z g (nI p) y w (lN c) (nI i) = BN_Mo_byCatch_44 F (N_Mo_byCatch_44 F 0) g (nI p) y w (lN (totN v p k i c)) 8 := by
  intro k
  induction k with
  | zero =>
    intro z i c hi hz
    obtain ⟨z, rfl⟩ : ∃ y, z = y + 1 := ⟨z - 1, by omega⟩
    have : i = 8 := by omega
    subst this
    have e8 : (8 : Int32) ≤ nI 8 := by decide
    show BN_Mo_byCatch_44 F _ g _ _ _ _ _ = _
    unfold BN_Mo_byCatch_44
    rw [if_pos e8, if_pos (by decide : (8 : Int32) ≤ 8)]
    rfl
  | succ k ih =>
    intro z i c hi hz
    obtain ⟨z, rfl⟩ : ∃ y, z = y + 1 := ⟨z - 1, by omega⟩
    have h1 : ¬ (8 : Int32) ≤ nI i := nI_ge (b := 8) (by omega) (by decide)
    have h9 := ih z (i + 1) (c + v (8 * p + i)) (by omega) (by omega)
    rw [← nI_1, ← lN_add] at h9
    have c1 : ¬ nI (8 * p + i) < 0 := nI_pos (by omega)
    have cc : (nI (8 * p + i)).toNatClampNeg = 8 * p + i := nI_clamp (by omega)
    have c3 : ¬ 80 ≤ 8 * p + i := by omega
    have e1 : g.2.2 38 (8 * p + i) = lN (v (8 * p + i)) := by rw [hg]; exact (h (8 * p + i) (by omega)).2.1
    show BN_Mo_byCatch_44 F _ g _ _ _ _ _ = _
    rw [totN, ← h9]
    simp only [BN_Mo_byCatch_44, h1, if_false, placeN, c1, cc, c3, or_self, e1]
theorem byCatch_both (H : Sh s a n rc) {v : Nat → Nat} {B : Nat} (h : SimH s a m v B) (hB : B < 2 ^ 40) (hF : 500 ≤ F) (x y w : Int32) : ∃ r, X_LT_byCatch F s (a 0) x y w = some (r, s) ∧ N_Mo_byCatch F m x y w = some (r, sPut m 0 0) := by
  have t0 : xT s (a 0) = 12 := H.t 0
  have r0_0 : xR s (a 0) 0 = some (a 1) := H.r 0 0
  have r0_2 : xR s (a 0) 2 = some (a 26) := H.r 0 2
  have r0_3 : xR s (a 0) 3 = some (a 34) := H.r 0 3
  have r0_4 : xR s (a 0) 4 = some (a 2) := H.r 0 4
  have r0_5 : xR s (a 0) 5 = some (a 5) := H.r 0 5
  have r0_6 : xR s (a 0) 6 = some (a 7) := H.r 0 6
  have r0_7 : xR s (a 0) 7 = some (a 12) := H.r 0 7
  have r0_8 : xR s (a 0) 8 = some (a 17) := H.r 0 8
  have r0_9 : xR s (a 0) 9 = some (a 19) := H.r 0 9
  have t19 : xT s (a 19) = 5 := H.t 19
  have r19_0 : xR s (a 19) 0 = some (a 20) := H.r 19 0
  have t20 : xT s (a 20) = 23 := H.t 20
  have l20 : xL s (a 20) = 80 := H.l 20
  rcases pk_ix x (n := 10) (by decide) with h1 | h1 | ⟨p, hp, rfl⟩
  · exact ⟨-1, by simp [X_LT_byCatch, X_Hauls_share, X_Hauls_has_eq, xGetA, t0, r0_9, xIs, t19, h1, xpT, xpL, xpI, xpR, xpA, xpJ, xpO, xpZ, xInt, xN], by simp [N_Mo_byCatch, h1]⟩
  · have h2 : (10 : Int32) ≤ x := h1
    have h3 : (9 : Int32) < x := by
      have := Int32.le_iff_toInt_le.mp h2
      apply Int32.lt_iff_toInt_lt.mpr
      simp at *
      omega
    exact ⟨-1, by simp [X_LT_byCatch, X_Hauls_share, X_Hauls_has_eq, xGetA, t0, r0_9, xIs, t19, h2, xpT, xpL, xpI, xpR, xpA, xpJ, xpO, xpZ, xInt, xN], by simp [N_Mo_byCatch, h3]⟩
  have p1 : ¬ nI p < 0 := nI_pos (by omega)
  have p2 : ¬ (10 : Int32) ≤ nI p := nI_ge (b := 10) hp (by decide)
  have p3 : ¬ (9 : Int32) < nI p := nI_nlt (a := 9) (by omega) (by omega)
  rcases pk_ix y (n := 8) (by decide) with h1 | h1 | ⟨k, hk, rfl⟩
  · exact ⟨-1, by simp [X_LT_byCatch, X_Hauls_share, X_Hauls_has_eq, xGetA, t0, r0_9, xIs, t19, h1, xpT, xpL, xpI, xpR, xpA, xpJ, xpO, xpZ, xInt, xN], by simp [N_Mo_byCatch, p1, p3, h1]⟩
  · have h2 : (8 : Int32) ≤ y := h1
    have h3 : (7 : Int32) < y := by
      have := Int32.le_iff_toInt_le.mp h2
      apply Int32.lt_iff_toInt_lt.mpr
      simp at *
      omega
    exact ⟨-1, by simp [X_LT_byCatch, X_Hauls_share, X_Hauls_has_eq, xGetA, t0, r0_9, xIs, t19, h2, xpT, xpL, xpI, xpR, xpA, xpJ, xpO, xpZ, xInt, xN], by simp [N_Mo_byCatch, p1, p3, h3]⟩
  have k1 : ¬ nI k < 0 := nI_pos (by omega)
  have k2 : ¬ (8 : Int32) ≤ nI k := nI_ge (b := 8) hk (by decide)
  have k3 : ¬ (7 : Int32) < nI k := nI_nlt (a := 7) (by omega) (by omega)
  by_cases w1 : w < 0
  · exact ⟨-1, by simp [X_LT_byCatch, X_Hauls_share, X_Hauls_has_eq, xGetA, t0, r0_9, xIs, t19, p1, p2, k1, k2, w1, xpT, xpL, xpI, xpR, xpA, xpJ, xpO, xpZ, xInt, xN], by simp [N_Mo_byCatch, p1, p3, k1, k3, w1]⟩
  by_cases w2 : w ≤ 1
  case neg => exact ⟨-1, by simp [X_LT_byCatch, X_Hauls_share, X_Hauls_has_eq, xGetA, t0, r0_9, xIs, t19, p1, p2, k1, k2, w1, w2, xpT, xpL, xpI, xpR, xpA, xpJ, xpO, xpZ, xInt, xN], by simp [N_Mo_byCatch, p1, p3, k1, k3, w1, w2]⟩
  obtain ⟨T, hT⟩ : ∃ T, T = totN v p 8 0 0 := ⟨_, rfl⟩
  obtain ⟨g, hg⟩ : ∃ g, g = v (8 * p + k) := ⟨_, rfl⟩
  have hv : ∀ j, j < 80 → v j ≤ B := fun j hj => (h j hj).2.2
  have hTle := (totN_le hp hv 8 0 0 (by omega)).2
  have hTg := totN_ge (v := v) (p := p) 8 0 0 k (by omega) (by omega)
  rw [← hT] at hTle hTg
  rw [← hg] at hTg
  have hgB : g ≤ B := by rw [hg]; exact hv _ (by omega)
  have e1 : X_Hauls_total F s (a 19) (nI p) = some (lN T, s) := by
    have := X_total_loop (F := F) H h hp 8 F 0 0 rfl (by omega)
    rw [hT]; exact this
  have e2 : X_Hauls_gramsOf F s (a 19) (nI p) (nI k) = some (lN g, s) := by rw [hg]; exact X_gramsOf_eq H h hp hk
  have e3 : X_Hauls_greatestDivisor F s (lN T) (lN g) = some (lN (Nat.gcd g T), s) := by
    have := X_gcd_loop (F := F) (s := s) (2 * 40) F 0 T g (Eu_ends 40 T g (by omega)) (by omega) (by omega) (by omega) (by omega)
    exact this
  have e4 : N_Mo_byCatch_44 F F (sPut m 0 0) (nI p) (nI k) w 0 0 = BN_Mo_byCatch_44 F (N_Mo_byCatch_44 F 0) (sPut m 0 0) (nI p) (nI k) w (lN T) 8 := by
    have := N_total_loop (F := F) h hp (y := nI k) (w := w) (g := sPut m 0 0) rfl 8 F 0 0 rfl (by omega)
    rw [hT]; exact this
  have c1 : ¬ nI (8 * p + k) < 0 := nI_pos (by omega)
  have cc : (nI (8 * p + k)).toNatClampNeg = 8 * p + k := nI_clamp (by omega)
  have c3 : ¬ 80 ≤ 8 * p + k := by omega
  have eg : (sPut m 0 0).2.2 38 (8 * p + k) = lN g := by rw [hg]; exact (h _ (by omega)).2.1
  have e8 : (8 : Int32) ≤ 8 := by decide
  by_cases hT0 : T = 0
  · have hg0 : g = 0 := by omega
    subst hT0
    subst hg0
    have ez : lg_cmp (lN 0) 0 = 0 := cmpL_eq.mpr rfl
    refine ⟨-1, ?_, ?_⟩
    · have e3' : X_Hauls_greatestDivisor F s (lN 0) (lN 0) = some (lN 0, s) := e3
      simp [X_LT_byCatch, X_Hauls_share, X_Hauls_has_eq, xGetA, t0, r0_9, xIs, t19, p1, p2, k1, k2, w1, w2, e1, e2, e3', ez, xpT, xpL, xpI, xpR, xpA, xpJ, xpO, xpZ, xInt, xN]
    · simp [N_Mo_byCatch, p1, p3, k1, k3, w1, w2, e4, BN_Mo_byCatch_44, ez]
  · have hd0 : 0 < Nat.gcd g T := Nat.gcd_pos_of_pos_right _ (by omega)
    have hdT : Nat.gcd g T ≤ T := Nat.gcd_le_right _ (by omega)
    have nz : ¬ lN (Nat.gcd g T) = 0 := by rw [lN0, pk_lEQ (by omega) (by omega)]; omega
    have nc : ¬ lg_cmp (lN (Nat.gcd g T)) 0 = 0 := fun q => nz (cmpL_eq.mp q)
    have nT : ¬ lg_cmp (lN T) 0 = 0 := fun q => hT0 (by
      have := cmpL_eq.mp q
      rw [lN0, pk_lEQ (by omega) (by omega)] at this
      exact this)
    have e5 : N_Mo_byCatch_102 F F (sPut m 0 0) (nI p) (nI k) w (lN T) (lN g) (lN T) = BN_Mo_byCatch_102 F (N_Mo_byCatch_102 F 0) (sPut m 0 0) (nI p) (nI k) w (lN T) (lN (Nat.gcd g T)) (lN 0) := by
      have := N_gcd_loop (F := F) (m := sPut m 0 0) (x := nI p) (y := nI k) (p4 := w) (t := lN T) (2 * 45) F g T (Eu_ends 45 g T (by omega)) (by omega) (by omega) (by omega)
      rw [Nat.gcd_comm g T]; exact this
    have ez : lg_cmp (lN 0) 0 ≤ 0 := cmpL_le.mpr (Int64.le_refl _)
    by_cases hw : w = 0
    · subst hw
      refine ⟨lN g / lN (Nat.gcd g T), ?_, ?_⟩
      · simp [X_LT_byCatch, X_Hauls_share, X_Hauls_has_eq, xGetA, t0, r0_9, xIs, t19, p1, p2, k1, k2, e1, e2, e3, nc, nz, xpT, xpL, xpI, xpR, xpA, xpJ, xpO, xpZ, xInt, xN]
      · simp [N_Mo_byCatch, p1, p3, k1, k3, e4, BN_Mo_byCatch_44, nT, placeN, c1, cc, c3, eg, e5, BN_Mo_byCatch_102, ez, nz]
    · refine ⟨lN T / lN (Nat.gcd g T), ?_, ?_⟩
      · simp [X_LT_byCatch, X_Hauls_share, X_Hauls_has_eq, xGetA, t0, r0_9, xIs, t19, p1, p2, k1, k2, w1, w2, hw, e1, e2, e3, nc, nz, xpT, xpL, xpI, xpR, xpA, xpJ, xpO, xpZ, xInt, xN]
      · simp [N_Mo_byCatch, p1, p3, k1, k3, w1, w2, hw, e4, BN_Mo_byCatch_44, nT, placeN, c1, cc, c3, eg, e5, BN_Mo_byCatch_102, ez, nz]
end SHARE
