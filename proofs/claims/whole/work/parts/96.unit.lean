/-! unit, written, editions -/
/-- the draft's cells lie in a row, and it is empty; so does the reader -/
def Lay (a : Nat → Nat) : Prop := (∀ j, j < 5 → a (21 + j) = a 26 + (1 + j)) ∧ (∀ j, j < 7 → a (27 + j) = a 26 + (6 + j)) ∧ ∀ j, j < 3 → a (35 + j) = a 34 + (1 + j)
def SimD (s : XS) (a : Nat → Nat) : Prop := Lay a ∧ xI s (a 26) 4 = 0 ∧ xI s (a 27) 2 = 0 ∧ xI s (a 30) 2 = 0
def SimT (s : XS) (a : Nat → Nat) (m : MS) (n : Nat) : Prop := WoAt s (a 21) (a 22) (a 23) (a 24) (a 25) n ∧ m.1 2 = nI n ∧ (∀ i, i < n → xA s (a 23) i = m.2.1 1 i) ∧ (∀ i, i < n → by8 (xA s (a 23) i) = xA s (a 23) i) ∧ SimD s a
theorem unit_both {F : Nat} {s : XS} {a : Nat → Nat} {k : Nat} {rc : Nat → Nat} {m : MS} {n : Nat} (H : Sh s a k rc) (h : SimT s a m n) (hn : n < 800) (u : Int32) : ∃ s2 m2, X_LT_unit F s (a 0) u = some (1, s2) ∧ N_Mo_unit F m u = some (1, m2) ∧ SimT s2 a m2 (n + 1) ∧ Fr s s2 [a 21, a 22] [a 23, a 24, a 25] ∧ m2 = (upd (upd m.1 0 0) 2 (nI (n + 1)), (fun j => if j = 1 then upd (m.2.1 1) n (by8 u) else m.2.1 j), m.2.2) := by
  have t0 : xT s (a 0) = 12 := H.t 0
  have r0_0 : xR s (a 0) 0 = some (a 1) := H.r 0 0
  have r0_2 : xR s (a 0) 2 = some (a 26) := H.r 0 2
  have r0_3 : xR s (a 0) 3 = some (a 34) := H.r 0 3
  have r0_4 : xR s (a 0) 4 = some (a 2) := H.r 0 4
  have r0_5 : xR s (a 0) 5 = some (a 5) := H.r 0 5
  have r0_6 : xR s (a 0) 6 = some (a 7) := H.r 0 6
  have r0_7 : xR s (a 0) 7 = some (a 12) := H.r 0 7
  have r0_8 : xR s (a 0) 8 = some (a 17) := H.r 0 8
  have r0_9 : xR s (a 0) 9 = some (a 19) := H.r 0 9
  have t21 : xT s (a 21) = 11 := H.t 21
  have r21_0 : xR s (a 21) 0 = some (a 22) := H.r 21 0
  have r21_1 : xR s (a 21) 1 = some (a 24) := H.r 21 1
  have r21_2 : xR s (a 21) 2 = some (a 25) := H.r 21 2
  have t26 : xT s (a 26) = 2 := H.t 26
  have r26_0 : xR s (a 26) 0 = some (a 21) := H.r 26 0
  have r26_1 : xR s (a 26) 1 = some (a 27) := H.r 26 1
  have r26_2 : xR s (a 26) 2 = some (a 30) := H.r 26 2
  have r26_3 : xR s (a 26) 3 = some (a 33) := H.r 26 3
  obtain ⟨h1, h2, h3, h5, h6⟩ := h
  obtain ⟨s2, e1, W2, ea, f2⟩ := X_Words_append_eq (F := F) h1 hn u
  have c1 : ¬ nI n < 0 := nI_pos (by omega)
  have cc : (nI n).toNatClampNeg = n := nI_clamp (by omega)
  have c3 : ¬ 800 ≤ n := by omega
  have c4 : ¬ nI n = 800 := by
    have : (800 : Int32) = nI 800 := rfl
    rw [this, nI_eq (by omega) (by omega)]
    omega
  have e2 : upd m.1 0 0 2 = nI n := by simp [upd, h2]
  refine ⟨s2, _, ?_, ?_, ⟨W2, ?_, ?_, ?_, ?_⟩, f2, rfl⟩
  · simp [X_LT_unit, xGetA, t0, r0_2, t26, r26_0, xIs, t21, e1, hZ, xpT, xpL, xpI, xpR, xpA, xpJ, xpO, xpZ, xInt, xN]
  · simp [N_Mo_unit, sPut, sStI, e2, c4, c1, cc, c3, nI_1, by8]
  · simp [upd]
  · intro i hi
    rw [ea]
    by_cases h9 : i = n
    · simp [upd, h9]
    · have := h3 i (by omega)
      simp [upd, h9, this]
  · intro i hi
    rw [ea]
    by_cases h9 : i = n
    · have := by8_by8 u
      simp only [upd, h9, if_true]
      exact this
    · have := h5 i (by omega)
      simp only [upd, h9, if_false]
      exact this
  · have n1 : a 26 ≠ a 21 := H.ne
    have n2 : a 26 ≠ a 22 := H.ne
    have n3 : a 27 ≠ a 21 := H.ne
    have n4 : a 27 ≠ a 22 := H.ne
    have n5 : a 30 ≠ a 21 := H.ne
    have n6 : a 30 ≠ a 22 := H.ne
    unfold SimD
    rw [f2.2.2.2.2.2.2.1 (a 26) (by simp [n1, n2]), f2.2.2.2.2.2.2.1 (a 27) (by simp [n3, n4]), f2.2.2.2.2.2.2.1 (a 30) (by simp [n5, n6])]
    exact h6
theorem editions_both {F : Nat} {s : XS} {a : Nat → Nat} {k : Nat} {rc : Nat → Nat} {m : MS} (H : Sh s a k rc) (h : xI s (a 0) 1 = m.1 3) : X_LT_editions F s (a 0) = some (m.1 3, s) ∧ N_Mo_editions F m = some (m.1 3, sPut m 0 0) := by
  have t0 : xT s (a 0) = 12 := H.t 0
  have r0_0 : xR s (a 0) 0 = some (a 1) := H.r 0 0
  have r0_2 : xR s (a 0) 2 = some (a 26) := H.r 0 2
  have r0_3 : xR s (a 0) 3 = some (a 34) := H.r 0 3
  have r0_4 : xR s (a 0) 4 = some (a 2) := H.r 0 4
  have r0_5 : xR s (a 0) 5 = some (a 5) := H.r 0 5
  have r0_6 : xR s (a 0) 6 = some (a 7) := H.r 0 6
  have r0_7 : xR s (a 0) 7 = some (a 12) := H.r 0 7
  have r0_8 : xR s (a 0) 8 = some (a 17) := H.r 0 8
  have r0_9 : xR s (a 0) 9 = some (a 19) := H.r 0 9
  exact ⟨by simp [X_LT_editions, xGetI, t0, h, xpT, xpL, xpI, xpR, xpA, xpJ, xpO, xpZ, xInt, xN], by simp [N_Mo_editions, sPut, upd]⟩
/-- what was written -/
def SimW (s : XS) (a : Nat → Nat) (m : MS) : Prop := ∃ n, n ≤ 800 ∧ xI s (a 17) 1 = nI n ∧ m.1 37 = nI n ∧ ∀ i, i < n → xA s (a 18) i = m.2.1 36 i
theorem X_Bytes_byteAt_out {F : Nat} {s : XS} {b r n : Nat} (tb : xT s b = 1) (hn : xI s b 1 = nI n) {x : Int32} (hx : x < 0 ∨ nI n ≤ x) : X_Bytes_byteAt F s b x = some (-1, s) := by
  by_cases h1 : x < 0
  · simp [X_Bytes_byteAt, h1]
  · have h2 : nI n ≤ x := hx.resolve_left h1
    simp [X_Bytes_byteAt, h1, xGetI, tb, hn, h2, xpT, xpL, xpI, xpR, xpA, xpJ, xpO, xpZ, xInt, xN]
theorem X_Bytes_byteAt_in {F : Nat} {s : XS} {b r n i : Nat} (tb : xT s b = 1) (rb : xR s b 0 = some r) (tr : xT s r = 21) (lr : xL s r = 800) (hn : xI s b 1 = nI n) (h8 : n ≤ 800) (hi : i < n) : X_Bytes_byteAt F s b (nI i) = some (xA s r i &&& 255, s) := by
  have h1 : ¬ nI i < 0 := nI_pos (by omega)
  have h2 : ¬ nI n ≤ nI i := nI_ge hi (by omega)
  have e8 : Int32.ofNat 800 = nI 800 := rfl
  have h3 : nI i < nI 800 := nI_lt (by omega) (by decide)
  have hc : (nI i).toNatClampNeg = i := nI_clamp (by omega)
  have h4 : ¬ 800 ≤ i := by omega
  simp [X_Bytes_byteAt, h1, xGetI, tb, hn, h2, xGetA, rb, xLen, tr, lr, e8, h3, xLdI, hc, h4, xpT, xpL, xpI, xpR, xpA, xpJ, xpO, xpZ, xInt, xN]
theorem written_both {F : Nat} {s : XS} {a : Nat → Nat} {k : Nat} {rc : Nat → Nat} {m : MS} (H : Sh s a k rc) (h : SimW s a m) (x : Int32) : ∃ r, X_LT_written F s (a 0) x = some (r, s) ∧ N_Mo_written F m x = some (r, sPut m 0 0) := by
  have t0 : xT s (a 0) = 12 := H.t 0
  have r0_0 : xR s (a 0) 0 = some (a 1) := H.r 0 0
  have r0_2 : xR s (a 0) 2 = some (a 26) := H.r 0 2
  have r0_3 : xR s (a 0) 3 = some (a 34) := H.r 0 3
  have r0_4 : xR s (a 0) 4 = some (a 2) := H.r 0 4
  have r0_5 : xR s (a 0) 5 = some (a 5) := H.r 0 5
  have r0_6 : xR s (a 0) 6 = some (a 7) := H.r 0 6
  have r0_7 : xR s (a 0) 7 = some (a 12) := H.r 0 7
  have r0_8 : xR s (a 0) 8 = some (a 17) := H.r 0 8
  have r0_9 : xR s (a 0) 9 = some (a 19) := H.r 0 9
  have t17 : xT s (a 17) = 1 := H.t 17
  have r17_0 : xR s (a 17) 0 = some (a 18) := H.r 17 0
  have t18 : xT s (a 18) = 21 := H.t 18
  have l18 : xL s (a 18) = 800 := H.l 18
  obtain ⟨n, hn, h1, h2, h3⟩ := h
  have e2 : upd m.1 0 0 37 = nI n := by simp [upd, h2]
  rcases pk_ix x (n := n) (by omega) with h9 | h9 | ⟨i, hi, rfl⟩
  · exact ⟨-1, by simp [X_LT_written, xGetA, t0, r0_8, xIs, t17, X_Bytes_byteAt_out (r := 0) t17 h1 (Or.inl h9), xpT, xpL, xpI, xpR, xpA, xpJ, xpO, xpZ, xInt, xN], by simp [N_Mo_written, h9]⟩
  · refine ⟨-1, by simp [X_LT_written, xGetA, t0, r0_8, xIs, t17, X_Bytes_byteAt_out (r := 0) t17 h1 (Or.inr h9), xpT, xpL, xpI, xpR, xpA, xpJ, xpO, xpZ, xInt, xN], ?_⟩
    by_cases h0 : x < 0
    · simp [N_Mo_written, h0]
    · simp [N_Mo_written, h0, sPut, e2, h9]
  · have c1 : ¬ nI i < 0 := nI_pos (by omega)
    have c2 : ¬ nI n ≤ nI i := nI_ge hi (by omega)
    have cc : (nI i).toNatClampNeg = i := nI_clamp (by omega)
    have c3 : ¬ 1600 ≤ i := by omega
    refine ⟨xA s (a 18) i &&& 255, by simp [X_LT_written, xGetA, t0, r0_8, xIs, t17, X_Bytes_byteAt_in t17 r17_0 t18 l18 h1 hn hi, xpT, xpL, xpI, xpR, xpA, xpJ, xpO, xpZ, xInt, xN], ?_⟩
    simp [N_Mo_written, c1, sPut, e2, c2, cc, c3, h3 i hi]
