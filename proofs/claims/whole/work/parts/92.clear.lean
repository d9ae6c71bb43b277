/-! clearFacts -/
theorem xUp_uq {α : Type} (f : Nat → Nat → α) (a i : Nat) (v : α) : xUp f a i v = xUq f a (fun j => if j = i then v else f a j) := by
  funext b j
  by_cases h : b = a
  · subst h; simp [xUp, xUq]
  · simp [xUp, xUq, h]
theorem xUq_uq {α : Type} (f : Nat → α) (a : Nat) (v w : α) : xUq (xUq f a v) a w = xUq f a w := by
  funext b
  by_cases h : b = a <;> simp [xUq, h]
def clr (f : Nat → Int32) (i : Nat) : Nat → Int32 := fun j => if i ≤ j ∧ j < 20 then 0 else f j
def tc (f : Nat → Int32) : Nat → Nat → Int32
  | 0, _ => 0
  | k + 1, i => (if f i = 0 then 0 else 1) + tc f k (i + 1)
theorem tc_congr {f g : Nat → Int32} : ∀ (k i : Nat), (∀ j, i ≤ j → j < i + k → f j = g j) → tc f k i = tc g k i := by
  intro k
  induction k with
  | zero => intro i _; rfl
  | succ k ih =>
    intro i h
    simp only [tc]
    rw [h i (Nat.le_refl _) (by omega), ih (i + 1) (fun j h1 h2 => h j (by omega) (by omega))]
theorem X_clear_loop {F : Nat} {a : Nat → Nat} {n : Nat} {rc : Nat → Nat} : ∀ (k z i : Nat) (s : XS) (c : Int32), Sh s a n rc → i + k = 20 → k < z → X_Facts_clear_4 F z s (a 2) c (nI i) = some (c + tc (xA s (a 4)) k i, xT s, xL s, xI s, xR s, xUq (xA s) (a 4) (clr (xA s (a 4)) i), xJ s, xO s, xZ s) := by
  intro k
  induction k with
  | zero =>
    intro z i s c H hi hz
    obtain ⟨z, rfl⟩ : ∃ y, z = y + 1 := ⟨z - 1, by omega⟩
    have : i = 20 := by omega
    subst this
    have t2 : xT s (a 2) = 3 := H.t 2
    have r2_0 : xR s (a 2) 0 = some (a 3) := H.r 2 0
    have r2_1 : xR s (a 2) 1 = some (a 4) := H.r 2 1
    have t4 : xT s (a 4) = 22 := H.t 4
    have l4 : xL s (a 4) = 20 := H.l 4
    have e20 : Int32.ofNat 20 = nI 20 := rfl
    have ec : xUq (xA s) (a 4) (clr (xA s (a 4)) 20) = xA s := by
      funext b
      by_cases hb : b = a 4
      · subst hb
        funext j
        have : ¬ (20 ≤ j ∧ j < 20) := by omega
        simp [xUq, clr, this]
      · simp [xUq, hb]
    show BX_Facts_clear_4 F _ s (a 2) c (nI 20) = _
    simp [BX_Facts_clear_4, xGetA, xLen, t2, r2_1, t4, l4, e20, tc, ec, xpT, xpL, xpI, xpR, xpA, xpJ, xpO, xpZ, xInt, xN]
  | succ k ih =>
    intro z i s c H hi hz
    obtain ⟨z, rfl⟩ : ∃ y, z = y + 1 := ⟨z - 1, by omega⟩
    have t2 : xT s (a 2) = 3 := H.t 2
    have r2_0 : xR s (a 2) 0 = some (a 3) := H.r 2 0
    have r2_1 : xR s (a 2) 1 = some (a 4) := H.r 2 1
    have t4 : xT s (a 4) = 22 := H.t 4
    have l4 : xL s (a 4) = 20 := H.l 4
    have e20 : Int32.ofNat 20 = nI 20 := rfl
    have h2 : ¬ (nI 20 ≤ nI i) := nI_ge (by omega) (by decide)
    have h1 : ¬ (nI i < 0) := nI_pos (by omega)
    have hc : (nI i).toNatClampNeg = i := nI_clamp (by omega)
    have h3 : ¬ 20 ≤ i := by omega
    show BX_Facts_clear_4 F _ s (a 2) c (nI i) = _
    obtain ⟨s1, hs1⟩ : ∃ y : XS, y = (xT s, xL s, xI s, xR s, xUp (xA s) (a 4) i (0 &&& 1), xJ s, xO s, xZ s) := ⟨_, rfl⟩
    have H1 : Sh s1 a n rc := by rw [hs1]; exact H.keep rfl rfl rfl rfl rfl
    have step : ∀ c1, X_Facts_clear_25 F (X_Facts_clear_4 F z) s (a 2) c1 (nI i) = X_Facts_clear_4 F z s1 (a 2) c1 (nI (i + 1)) := by
      intro c1
      rw [hs1]
      simp [X_Facts_clear_25, xGetA, t2, r2_1, xStZ, xSt, t4, l4, h1, hc, h3, nI_1, xpT, xpL, xpI, xpR, xpA, xpJ, xpO, xpZ, xInt, xN]
    have etc : tc (xA s1 (a 4)) k (i + 1) = tc (xA s (a 4)) k (i + 1) := tc_congr _ _ (fun j h4 h5 => by
      rw [hs1]
      have : j ≠ i := by omega
      simp [xpT, xpL, xpI, xpR, xpA, xpJ, xpO, xpZ, xInt, xN, xUp, this])
    have eA : xUq (xA s1) (a 4) (clr (xA s1 (a 4)) (i + 1)) = xUq (xA s) (a 4) (clr (xA s (a 4)) i) := by
      rw [hs1]
      simp only [xpT, xpL, xpI, xpR, xpA, xpJ, xpO, xpZ, xInt, xN]
      rw [xUp_uq, xUq_uq]
      congr 1
      funext j
      simp only [clr, xUq_self]
      by_cases h5 : j = i
      · subst h5
        have : ¬ (j + 1 ≤ j ∧ j < 20) := by omega
        have h6 : j ≤ j ∧ j < 20 := by omega
        rw [if_neg this, if_pos rfl, if_pos h6]
        rfl
      · by_cases h6 : i ≤ j ∧ j < 20
        · rw [if_pos (by omega), if_pos h6]
        · rw [if_neg (by omega), if_neg h5, if_neg h6]
    have fin : ∀ c1, X_Facts_clear_4 F z s1 (a 2) c1 (nI (i + 1)) = some (c1 + tc (xA s (a 4)) k (i + 1), xT s, xL s, xI s, xR s, xUq (xA s) (a 4) (clr (xA s (a 4)) i), xJ s, xO s, xZ s) := by
      intro c1
      rw [ih z (i + 1) s1 c1 H1 (by omega) (by omega), etc, eA, hs1]
    simp only [tc]
    by_cases h4 : xA s (a 4) i = 0
    · simp [BX_Facts_clear_4, xGetA, xLen, xLdI, t2, r2_1, t4, l4, e20, h2, h1, hc, h3, h4, step, fin, xpT, xpL, xpI, xpR, xpA, xpJ, xpO, xpZ, xInt, xN]
    · simp [BX_Facts_clear_4, xGetA, xLen, xLdI, t2, r2_1, t4, l4, e20, h2, h1, hc, h3, h4, step, fin, xpT, xpL, xpI, xpR, xpA, xpJ, xpO, xpZ, xInt, xN, Int32.add_assoc]
theorem X_LT_clearFacts_eq {F : Nat} {s : XS} {a : Nat → Nat} {n : Nat} {rc : Nat → Nat} (H : Sh s a n rc) (hF : 100 ≤ F) : X_LT_clearFacts F s (a 0) = some (tc (xA s (a 4)) 20 0, xT s, xL s, xI s, xR s, xUq (xA s) (a 4) (clr (xA s (a 4)) 0), xJ s, xO s, xZ s) := by
  have t0 : xT s (a 0) = 12 := H.t 0
  have r0_0 : xR s (a 0) 0 = some (a 1) := H.r 0 0
  have r0_2 : xR s (a 0) 2 = some (a 26) := H.r 0 2
  have r0_3 : xR s (a 0) 3 = some (a 34) := H.r 0 3
  have r0_4 : xR s (a 0) 4 = some (a 2) := H.r 0 4
  have r0_5 : xR s (a 0) 5 = some (a 5) := H.r 0 5
  have r0_6 : xR s (a 0) 6 = some (a 7) := H.r 0 6
  have r0_7 : xR s (a 0) 7 = some (a 12) := H.r 0 7
  have r0_8 : xR s (a 0) 8 = some (a 17) := H.r 0 8
  have r0_9 : xR s (a 0) 9 = some (a 19) := H.r 0 9
  have t2 : xT s (a 2) = 3 := H.t 2
  have r2_0 : xR s (a 2) 0 = some (a 3) := H.r 2 0
  have r2_1 : xR s (a 2) 1 = some (a 4) := H.r 2 1
  have h9 := X_clear_loop (F := F) (a := a) (n := n) (rc := rc) 20 F 0 s 0 H rfl (by omega)
  rw [nI_0] at h9
  simp [X_LT_clearFacts, X_Facts_clear, xGetA, t0, r0_4, xIs, t2, h9, xpT, xpL, xpI, xpR, xpA, xpJ, xpO, xpZ, xInt, xN]
theorem N_clear_loop {F : Nat} : ∀ (k z i : Nat) (m : MS) (c : Int32), i + k = 20 → k < z → N_Mo_clearFacts_9 F z m c (nI i) = some (c + tc (m.2.1 28) k i, m.1, xUq m.2.1 28 (clr (m.2.1 28) i), m.2.2) := by
  intro k
  induction k with
  | zero =>
    intro z i m c hi hz
    obtain ⟨z, rfl⟩ : ∃ y, z = y + 1 := ⟨z - 1, by omega⟩
    have : i = 20 := by omega
    subst this
    have e20 : nI 20 = (20 : Int32) := rfl
    have ec : xUq m.2.1 28 (clr (m.2.1 28) 20) = m.2.1 := by
      funext b
      by_cases hb : b = 28
      · subst hb
        funext j
        have : ¬ (20 ≤ j ∧ j < 20) := by omega
        simp [xUq, clr, this]
      · simp [xUq, hb]
    show BN_Mo_clearFacts_9 F _ m c (nI 20) = _
    simp [BN_Mo_clearFacts_9, e20, tc, ec]
  | succ k ih =>
    intro z i m c hi hz
    obtain ⟨z, rfl⟩ : ∃ y, z = y + 1 := ⟨z - 1, by omega⟩
    have h2 : ¬ ((20 : Int32) ≤ nI i) := nI_ge (b := 20) (by omega) (by decide)
    have h1 : ¬ (nI i < 0) := nI_pos (by omega)
    have hc : (nI i).toNatClampNeg = i := nI_clamp (by omega)
    have h3 : ¬ 20 ≤ i := by omega
    show BN_Mo_clearFacts_9 F _ m c (nI i) = _
    have step : ∀ c1 c2, N_Mo_clearFacts_30 F (N_Mo_clearFacts_9 F z) m (nI i) c1 c2 = N_Mo_clearFacts_9 F z (sStI m 28 i 0) (c1 + c2) (nI (i + 1)) := by
      intro c1 c2
      simp [N_Mo_clearFacts_30, h1, hc, h3, nI_1]
    have etc : tc ((sStI m 28 i 0).2.1 28) k (i + 1) = tc (m.2.1 28) k (i + 1) := tc_congr _ _ (fun j h4 h5 => by
      have : j ≠ i := by omega
      simp [sStI, upd, this])
    have eA : xUq (sStI m 28 i 0).2.1 28 (clr ((sStI m 28 i 0).2.1 28) (i + 1)) = xUq m.2.1 28 (clr (m.2.1 28) i) := by
      funext b
      by_cases hb : b = 28
      · subst hb
        rw [xUq_self, xUq_self]
        funext j
        simp only [clr, sStI, upd, if_true]
        by_cases h5 : j = i
        · subst h5
          have : ¬ (j + 1 ≤ j ∧ j < 20) := by omega
          have h6 : j ≤ j ∧ j < 20 := by omega
          rw [if_neg this, if_pos rfl, if_pos h6]
        · by_cases h6 : i ≤ j ∧ j < 20
          · rw [if_pos (by omega), if_pos h6]
          · rw [if_neg (by omega), if_neg h5, if_neg h6]
      · rw [xUq_ne _ _ hb, xUq_ne _ _ hb]
        simp [sStI, hb]
    have fin : ∀ c1, N_Mo_clearFacts_9 F z (sStI m 28 i 0) c1 (nI (i + 1)) = some (c1 + tc (m.2.1 28) k (i + 1), m.1, xUq m.2.1 28 (clr (m.2.1 28) i), m.2.2) := by
      intro c1
      rw [ih z (i + 1) _ c1 (by omega) (by omega), etc, eA]
      rfl
    simp only [tc]
    by_cases h4 : m.2.1 28 i = 0
    · simp [BN_Mo_clearFacts_9, h2, h1, hc, h3, h4, step, fin]
    · simp [BN_Mo_clearFacts_9, h2, h1, hc, h3, h4, step, fin, Int32.add_assoc]
theorem N_Mo_clearFacts_eq {F : Nat} {m : MS} (hF : 100 ≤ F) : N_Mo_clearFacts F m = some (tc (m.2.1 28) 20 0, upd m.1 0 0, xUq m.2.1 28 (clr (m.2.1 28) 0), m.2.2) := by
  have h9 := N_clear_loop (F := F) 20 F 0 (sPut m 0 0) 0 rfl (by omega)
  rw [nI_0] at h9
  show N_Mo_clearFacts_9 F F (sPut m 0 0) 0 0 = _
  rw [h9]
  simp [sPut]
theorem SimF.clear {s : XS} {a : Nat → Nat} {m : MS} (h : SimF s a m) : SimF (xT s, xL s, xI s, xR s, xUq (xA s) (a 4) (clr (xA s (a 4)) 0), xJ s, xO s, xZ s) a (upd m.1 0 0, xUq m.2.1 28 (clr (m.2.1 28) 0), m.2.2) := by
  intro j hj
  obtain ⟨h1, h2, h3⟩ := h j hj
  have : 0 ≤ j ∧ j < 20 := by omega
  simp [xpT, xpL, xpI, xpR, xpA, xpJ, xpO, xpZ, xInt, xN, xUq, clr, this, h1]
theorem SimF.tc {s : XS} {a : Nat → Nat} {m : MS} (h : SimF s a m) : tc (xA s (a 4)) 20 0 = tc (m.2.1 28) 20 0 := tc_congr _ _ (fun j _ hj => (h j (by omega)).2.1)
