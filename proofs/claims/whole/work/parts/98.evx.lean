/-! THE CLASS's RECKONER -/
/-- what a look at a rule leaves as it is -/
def FrE (a : Nat → Nat) (s s2 : XS) : Prop := xT s2 = xT s ∧ xL s2 = xL s ∧ xR s2 = xR s ∧ xA s2 = xA s ∧ xO s2 = xO s ∧ xZ s2 = xZ s ∧ (∀ c, c ≠ a 5 → xI s2 c = xI s c) ∧ ∀ c, c ≠ a 6 → xJ s2 c = xJ s c
theorem FrE.refl (a : Nat → Nat) (s : XS) : FrE a s s := ⟨rfl, rfl, rfl, rfl, rfl, rfl, fun _ _ => rfl, fun _ _ => rfl⟩
theorem FrE.trans {a : Nat → Nat} {s s2 s3 : XS} (h : FrE a s s2) (g : FrE a s2 s3) : FrE a s s3 := by
  obtain ⟨h1, h2, h3, h4, h5, h6, h7, h8⟩ := h
  obtain ⟨g1, g2, g3, g4, g5, g6, g7, g8⟩ := g
  exact ⟨g1.trans h1, g2.trans h2, g3.trans h3, g4.trans h4, g5.trans h5, g6.trans h6, fun c hc => (g7 c hc).trans (h7 c hc), fun c hc => (g8 c hc).trans (h8 c hc)⟩
theorem FrE.up {a : Nat → Nat} (s : XS) (I2 : Nat → Nat → Int32) (J2 : Nat → Nat → Int64) (h1 : ∀ c, c ≠ a 5 → I2 c = xI s c) (h2 : ∀ c, c ≠ a 6 → J2 c = xJ s c) : FrE a s (xT s, xL s, I2, xR s, xA s, J2, xO s, xZ s) := ⟨rfl, rfl, rfl, rfl, rfl, rfl, h1, h2⟩
def RS (s : XS) (a : Nat → Nat) (top : Nat) (p : Nat → Int64) : Prop := xI s (a 5) 2 = nI top ∧ ∀ j, j < top → xJ s (a 6) j = p j
section EVX
variable {F : Nat} {s : XS} {a : Nat → Nat} {n : Nat} {rc : Nat → Nat} {f : Nat → Nat} {r : Nat} {E : Ed} {top : Nat} {p : Nat → Int64}
theorem Sh.frE (H : Sh s a n rc) {s2 : XS} (h : FrE a s s2) : Sh s2 a n rc := H.keep h.1 h.2.1 h.2.2.1 h.2.2.2.2.1 h.2.2.2.2.2.1
theorem ESh.frE (H : ESh s f r) {s2 : XS} (h : FrE a s s2) : ESh s2 f r := H.keep h.1 h.2.1 h.2.2.1 h.2.2.2.2.1
theorem CE.frE (H : Sh s a n rc) (K : ESh s f r) (hr : r = E.1 4) (h : CE s f E) {s2 : XS} (g : FrE a s s2) : CE s2 f E := by
  have t5 : xT s (a 5) = 6 := H.t 5
  have ne : ∀ c, xT s c ≠ 6 → c ≠ a 5 := fun c hc e => hc (e ▸ t5)
  obtain ⟨g1, g2, g3, g4, g5, g6, g7, g8⟩ := g
  have e0 : xI s2 (f 0) = xI s (f 0) := g7 _ (ne _ (by rw [K.t 0]; decide))
  have e6 : xI s2 (f 6) = xI s (f 6) := g7 _ (ne _ (by rw [K.t 6]; decide))
  have e9 : xI s2 (f 9) = xI s (f 9) := g7 _ (ne _ (by rw [K.t 9]; decide))
  obtain ⟨h1, h2, h3, h4⟩ := h
  unfold CE
  rw [e0, e6, e9, g4]
  refine ⟨h1, h2, h3, fun k hk => ?_⟩
  have ek : xI s2 (f (13 + k)) = xI s (f (13 + k)) := g7 _ (ne _ (by rw [K.rt (by omega)]; decide))
  rw [ek]
  exact h4 k hk
theorem X_push_eq (H : Sh s a n rc) (h : xI s (a 5) 2 = nI top) (ht : top < 64) (v : Int64) : X_Reckoner_push F s (a 5) v = some (xT s, xL s, xUp (xI s) (a 5) 2 (nI (top + 1)), xR s, xA s, xUp (xJ s) (a 6) top v, xO s, xZ s) := by
  have t5 : xT s (a 5) = 6 := H.t 5
  have r5_0 : xR s (a 5) 0 = some (a 2) := H.r 5 0
  have r5_1 : xR s (a 5) 1 = some (a 6) := H.r 5 1
  have t6 : xT s (a 6) = 23 := H.t 6
  have l6 : xL s (a 6) = 64 := H.l 6
  have h1 : ¬ nI top < 0 := nI_pos (by omega)
  have e6 : Int32.ofNat 64 = nI 64 := rfl
  have h2 : ¬ nI 64 ≤ nI top := nI_ge ht (by decide)
  have hc : (nI top).toNatClampNeg = top := nI_clamp (by omega)
  have h3 : ¬ 64 ≤ top := by omega
  simp [X_Reckoner_push, xGetI, t5, h, h1, xGetA, r5_1, xLen, t6, l6, e6, h2, xStL, hc, h3, xPutI, nI_1, xpT, xpL, xpI, xpR, xpA, xpJ, xpO, xpZ, xInt, xN]
theorem X_pop_eq (H : Sh s a n rc) (h : xI s (a 5) 2 = nI (top + 1)) (ht : top < 64) : X_Reckoner_pop F s (a 5) = some (xJ s (a 6) top, xT s, xL s, xUp (xI s) (a 5) 2 (nI top), xR s, xA s, xJ s, xO s, xZ s) := by
  have t5 : xT s (a 5) = 6 := H.t 5
  have r5_0 : xR s (a 5) 0 = some (a 2) := H.r 5 0
  have r5_1 : xR s (a 5) 1 = some (a 6) := H.r 5 1
  have t6 : xT s (a 6) = 23 := H.t 6
  have l6 : xL s (a 6) = 64 := H.l 6
  have h1 : ¬ nI (top + 1) ≤ 0 := nI_nle (by omega) (by omega)
  have e6 : Int32.ofNat 64 = nI 64 := rfl
  have h2 : nI (top + 1) ≤ nI 64 := nI_le (by omega) (by decide)
  have hc : (nI top).toNatClampNeg = top := nI_clamp (by omega)
  have h0 : ¬ nI top < 0 := nI_pos (by omega)
  have h3 : ¬ 64 ≤ top := by omega
  simp [X_Reckoner_pop, xGetI, t5, h, h1, xGetA, r5_1, xLen, t6, l6, e6, h2, xLdL, hc, h3, xPutI, nI_pred, h0, xpT, xpL, xpI, xpR, xpA, xpJ, xpO, xpZ, xInt, xN, xUp]
theorem X_kindAt_eq {i c b1 b2 : Nat} {w : Nat} (tw : xT s w = 8) (r0 : xR s w 0 = some b1) (r1 : xR s w 1 = some b2) (tb : xT s b1 = 20) (lb : xL s b1 = 400) (tb2 : xT s b2 = 20) (lb2 : xL s b2 = 400) (hc : xI s w 2 = nI c) (hi : i < c) (h4 : c ≤ 400) : X_Steps_kindAt F s w (nI i) = some (xA s b1 i, s) ∧ X_Steps_valueAt F s w (nI i) = some (xA s b2 i, s) := by
  have h1 : ¬ nI i < 0 := nI_pos (by omega)
  have h2 : ¬ nI c ≤ nI i := nI_ge hi (by omega)
  have e4 : Int32.ofNat 400 = nI 400 := rfl
  have h3 : ¬ nI 400 ≤ nI i := nI_ge (by omega) (by decide)
  have hcl : (nI i).toNatClampNeg = i := nI_clamp (by omega)
  have h5 : ¬ 400 ≤ i := by omega
  exact ⟨by simp [X_Steps_kindAt, h1, xGetI, tw, hc, h2, xGetA, r0, xLen, tb, lb, e4, h3, xLdI, hcl, h5, xpT, xpL, xpI, xpR, xpA, xpJ, xpO, xpZ, xInt, xN], by simp [X_Steps_valueAt, h1, xGetI, tw, hc, h2, xGetA, r1, xLen, tb2, lb2, e4, h3, xLdI, hcl, h5, xpT, xpL, xpI, xpR, xpA, xpJ, xpO, xpZ, xInt, xN]⟩
theorem lN_cases (x : Int64) {z : Nat} (hz : z ≤ 10) : x < 0 ∨ (nI z).toInt64 ≤ x ∨ ∃ j, j < z ∧ x = lN j := by
  by_cases h : x < 0
  · exact Or.inl h
  · obtain ⟨g, hg, rfl⟩ := pk_lOf h
    rw [nI_l (by omega), pk_lLE (by omega) hg]
    rcases Nat.lt_or_ge g z with h2 | h2
    · exact Or.inr (Or.inr ⟨g, h2, rfl⟩)
    · exact Or.inr (Or.inl h2)
theorem nI_10 (t : Nat) : nI t * 10 = nI (10 * t) := by
  have : (10 : Int32) = nI 10 := rfl
  rw [this, Nat.mul_comm]
  exact (Int32.ofNat_mul t 10).symm
/-- numberAt at a table that is there -/
theorem X_numberAt_in {w b1 b2 c t z j : Nat} (tw : xT s w = 9) (r0 : xR s w 0 = some b1) (r1 : xR s w 1 = some b2) (tb : xT s b1 = 20) (lb : xL s b1 = 80) (tb2 : xT s b2 = 20) (lb2 : xL s b2 = 8) (hc : xI s w 2 = nI c) (ht : t < c) (h8 : c ≤ 8) (hz : xA s b2 t = nI z) (h10 : z ≤ 10) (hj : j < z) : X_Tables_numberAt F s w (nI t) (lN j) = some (xA s b1 (10 * t + j), s) := by
  have h1 : ¬ nI t < 0 := nI_pos (by omega)
  have h2 : ¬ nI c ≤ nI t := nI_ge ht (by omega)
  have e4 : Int32.ofNat 8 = nI 8 := rfl
  have h3 : ¬ nI 8 ≤ nI t := nI_ge (by omega) (by decide)
  have hcl : (nI t).toNatClampNeg = t := nI_clamp (by omega)
  have h5 : ¬ 8 ≤ t := by omega
  have g1 : ¬ lg_cmp (lN j) 0 < 0 := by
    rw [cmpL_lt]
    have : (0 : Int64) = lN 0 := rfl
    rw [this, pk_lLT (by omega) (by decide)]
    omega
  have g2 : lg_cmp (lN j) (nI z).toInt64 < 0 := by
    rw [cmpL_lt, nI_l (by omega), pk_lLT (by omega) (by omega)]
    exact hj
  have e80 : Int32.ofNat 80 = nI 80 := rfl
  have g3 : nI t * 10 + nI j = nI (10 * t + j) := by rw [nI_10, nI_add]
  have g4 : ¬ nI (10 * t + j) < 0 := nI_pos (by omega)
  have g5 : ¬ nI 80 ≤ nI (10 * t + j) := nI_ge (by omega) (by decide)
  have g6 : (nI (10 * t + j)).toNatClampNeg = 10 * t + j := nI_clamp (by omega)
  have g7 : ¬ 80 ≤ 10 * t + j := by omega
  simp [X_Tables_numberAt, h1, xGetI, tw, hc, h2, xGetA, r1, xLen, tb2, lb2, e4, h3, xLdI, hcl, h5, g1, hz, g2, lN_i, g3, g4, r0, tb, lb, e80, g5, g6, g7, xpT, xpL, xpI, xpR, xpA, xpJ, xpO, xpZ, xInt, xN]
theorem X_numberAt_out {w b1 b2 c t z : Nat} (tw : xT s w = 9) (r0 : xR s w 0 = some b1) (r1 : xR s w 1 = some b2) (tb2 : xT s b2 = 20) (lb2 : xL s b2 = 8) (hc : xI s w 2 = nI c) (ht : t < c) (h8 : c ≤ 8) (hz : xA s b2 t = nI z) {x : Int64} (hx : x < 0 ∨ (nI z).toInt64 ≤ x) : X_Tables_numberAt F s w (nI t) x = some (-1, s) := by
  have h1 : ¬ nI t < 0 := nI_pos (by omega)
  have h2 : ¬ nI c ≤ nI t := nI_ge ht (by omega)
  have e4 : Int32.ofNat 8 = nI 8 := rfl
  have h3 : ¬ nI 8 ≤ nI t := nI_ge (by omega) (by decide)
  have hcl : (nI t).toNatClampNeg = t := nI_clamp (by omega)
  have h5 : ¬ 8 ≤ t := by omega
  by_cases g1 : lg_cmp x 0 < 0
  · simp [X_Tables_numberAt, h1, xGetI, tw, hc, h2, xGetA, r1, xLen, tb2, lb2, e4, h3, g1, xpT, xpL, xpI, xpR, xpA, xpJ, xpO, xpZ, xInt, xN]
  · have g2 : ¬ lg_cmp x (nI z).toInt64 < 0 := by
      rw [cmpL_lt] at g1 ⊢
      rcases hx with h | h
      · exact absurd h g1
      · exact Int64.not_lt.mpr h
    simp [X_Tables_numberAt, h1, xGetI, tw, hc, h2, xGetA, r1, xLen, tb2, lb2, e4, h3, xLdI, hcl, h5, g1, hz, g2, xpT, xpL, xpI, xpR, xpA, xpJ, xpO, xpZ, xInt, xN]
theorem nI_ne_m1 {j : Nat} (hj : j < 2 ^ 31) : ¬ nI j = -1 := fun e => by
  have := congrArg Int32.toInt e
  rw [nI_toInt hj] at this
  have h2 : (-1 : Int32).toInt = -1 := by decide
  rw [h2] at this
  omega
end EVX
