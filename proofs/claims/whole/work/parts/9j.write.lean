/-! WRITE -/
theorem w_facts (f : Nat → Int32) : ∀ n, (∀ i, i < wc f n → wb f n i < we f n i ∧ we f n i ≤ n) ∧ (∀ i, i + 1 < wc f n → we f n i < wb f n (i + 1)) ∧ (inW f n = false → ∀ i, i < wc f n → we f n i < n) := by
  intro n
  induction n with
  | zero => exact ⟨fun i hi => by simp [wc] at hi, fun i hi => by simp [wc] at hi, fun _ i hi => by simp [wc] at hi⟩
  | succ n ih =>
    obtain ⟨h1, h2, h3⟩ := ih
    cases hb : isB (f n) with
    | true =>
      have k1 : wc f (n + 1) = wc f n := by simp only [wc]; rw [hb]; rfl
      have k2 : ∀ i, wb f (n + 1) i = wb f n i := fun i => by simp only [wb]; rw [hb]; rfl
      have k3 : ∀ i, we f (n + 1) i = we f n i := fun i => by simp only [we]; rw [hb]; rfl
      refine ⟨fun i hi => ?_, fun i hi => ?_, fun _ i hi => ?_⟩
      · rw [k2, k3]; rw [k1] at hi; have := h1 i hi; omega
      · rw [k2, k3]; rw [k1] at hi; exact h2 i hi
      · rw [k3]; rw [k1] at hi; have := h1 i hi; omega
    | false =>
      have k4 : inW f (n + 1) = true := by simp only [inW]; rw [hb]; rfl
      cases hi : inW f n with
      | true =>
        have k1 : wc f (n + 1) = wc f n := by simp only [wc]; rw [hb, hi]; rfl
        have k2 : ∀ i, wb f (n + 1) i = wb f n i := fun i => by simp only [wb]; rw [hb, hi]; rfl
        have k3 : ∀ i, we f (n + 1) i = if i + 1 = wc f n then n + 1 else we f n i := fun i => by
          show (if isB (f n) then we f n i else if i + 1 = wc f (n + 1) then n + 1 else we f n i) = _
          rw [hb, k1]; rfl
        refine ⟨fun i hi => ?_, fun i hi => ?_, fun q => by rw [k4] at q; cases q⟩
        · rw [k2, k3]; rw [k1] at hi; have := h1 i hi; split <;> omega
        · rw [k2, k3]; rw [k1] at hi; rw [if_neg (by omega)]; exact h2 i hi
      | false =>
        have k1 : wc f (n + 1) = wc f n + 1 := by simp only [wc]; rw [hb, hi]; rfl
        have k2 : ∀ i, wb f (n + 1) i = if i = wc f n then n else wb f n i := fun i => by simp only [wb]; rw [hb, hi]; rfl
        have k3 : ∀ i, we f (n + 1) i = if i = wc f n then n + 1 else we f n i := fun i => by
          show (if isB (f n) then we f n i else if i + 1 = wc f (n + 1) then n + 1 else we f n i) = _
          rw [hb, k1]
          by_cases e : i = wc f n
          · simp [e]
          · have : ¬ (i + 1 = wc f n + 1) := by omega
            simp [e]
        refine ⟨fun i hi2 => ?_, fun i hi2 => ?_, fun q => by rw [k4] at q; cases q⟩
        · rw [k2, k3]; rw [k1] at hi2
          by_cases e : i = wc f n
          · rw [if_pos e, if_pos e]; omega
          · rw [if_neg e, if_neg e]; have := h1 i (by omega); omega
        · rw [k2, k3]; rw [k1] at hi2
          rw [if_neg (by omega)]
          by_cases e : i + 1 = wc f n
          · rw [if_pos e]; exact h3 hi i (by omega)
          · rw [if_neg e]; exact h2 i (by omega)
section WRITE
variable {F : Nat} {s : XS} {a : Nat → Nat} {m : MS} {n : Nat} {rc : Nat → Nat} {Es : Nat → Ed} {nt : Nat} {v : Nat → Nat} {B : Nat}
theorem X_startOf_eq {w b r p q k i : Nat} (W : WoAt s w b r p q k) (hi : i < wc (xA s r) k) : X_Words_startOf F s w (nI i) = some (nI (wb (xA s r) k i), s) ∧ X_Words_endOf F s w (nI i) = some (nI (we (xA s r) k i), s) := by
  obtain ⟨⟨tw, w0, w1, w2, tb, b0, tr, lr, tp, lp, tq, lq, -, -⟩, hb, hk, h3, h4, h5⟩ := W
  have hle := wc_le (xA s r) k
  have hwc : wc (xA s r) k ≤ 400 := by
    cases h : inW (xA s r) k with
    | true => have := hle.1 h; omega
    | false => have := hle.2 h; omega
  have h1 : ¬ nI i < 0 := nI_pos (by omega)
  have h2 : ¬ nI (wc (xA s r) k) ≤ nI i := nI_ge hi (by omega)
  have e4 : Int32.ofNat 400 = nI 400 := rfl
  have h6 : ¬ nI 400 ≤ nI i := nI_ge (by omega) (by decide)
  have hcl : (nI i).toNatClampNeg = i := nI_clamp (by omega)
  have h7 : ¬ 400 ≤ i := by omega
  obtain ⟨q1, q2⟩ := h5 i hi
  exact ⟨by simp [X_Words_startOf, h1, xGetI, tw, h3, h2, xGetA, w1, xLen, tp, lp, e4, h6, xLdI, hcl, h7, q1, xpT, xpL, xpI, xpR, xpA, xpJ, xpO, xpZ, xInt, xN], by simp [X_Words_endOf, h1, xGetI, tw, h3, h2, xGetA, w2, xLen, tq, lq, e4, h6, xLdI, hcl, h7, q2, xpT, xpL, xpI, xpR, xpA, xpJ, xpO, xpZ, xInt, xN]⟩
/-- L bytes are written on both sides -/
def Wr (s : XS) (a : Nat → Nat) (m : MS) (L : Nat) : Prop := xI s (a 17) 1 = nI L ∧ m.1 37 = nI L ∧ ∀ i, i < L → xA s (a 18) i = m.2.1 36 i
theorem wr_step (H : Sh s a n rc) {L : Nat} (h : Wr s a m L) (hL : L < 800) (u : Int32) : ∃ s2, X_Bytes_append F s (a 17) u = some (1, s2) ∧ FrR a s s2 [17] [18] [] ∧ Wr s2 a (sPut (sStI m 36 L (by8 u)) 37 (nI (L + 1))) (L + 1) := by
  have t17 : xT s (a 17) = 1 := H.t 17
  have r17_0 : xR s (a 17) 0 = some (a 18) := H.r 17 0
  have t18 : xT s (a 18) = 21 := H.t 18
  have l18 : xL s (a 18) = 800 := H.l 18
  refine ⟨_, X_Bytes_append_eq (F := F) t17 r17_0 t18 l18 h.1 hL u, ⟨rfl, rfl, rfl, rfl, rfl, fun c hc => xUp_ne _ _ _ (fun e => hc (by simp [e])), fun c hc => xUp_ne _ _ _ (fun e => hc (by simp [e])), fun _ _ => rfl⟩, ?_, ?_, ?_⟩
  · simp [xUp, xpT, xpL, xpI, xpR, xpA, xpJ, xpO, xpZ, xInt, xN]
  · simp [sPut, upd]
  · intro i hi
    by_cases e : i = L
    · subst e; simp [xUp, sPut, sStI, upd, xpT, xpL, xpI, xpR, xpA, xpJ, xpO, xpZ, xInt, xN]
    · have := h.2.2 i (by omega)
      simp [xUp, sPut, sStI, upd, e, this, xpT, xpL, xpI, xpR, xpA, xpJ, xpO, xpZ, xInt, xN]
theorem FrM.wr (m : MS) (L : Nat) (x y : Int32) : FrM m (sPut (sStI m 36 L x) 37 y) [37] [36] [] := ⟨fun k hk => by simp at hk; simp [sPut, sStI, upd, hk], fun k hk => by simp at hk; simp [sPut, sStI, hk], fun _ _ => rfl⟩
theorem WdE.wr {e : Nat} {E : Ed} (he : e < n) (H : Sh s a n rc) (h : WdE s (fun j => a (eR e j)) m e E) {s2 : XS} {m2 : MS} (g : FrR a s s2 [17] [18] []) (gm : FrM m m2 [37] [36] []) : WdE s2 (fun j => a (eR e j)) m2 e E ∧ xA s2 (a (eR e 3)) = xA s (a (eR e 3)) := ⟨h.fr H he g gm (by decide), g.eA H he (by omega) (by decide)⟩
theorem write_in {e w : Nat} {E : Ed} {kk fr to : Int32} (he : e < n) (h6 : n ≤ 6) {g0 : Nat → Int32} {r3 : XS → Nat → Nat → Int32 → Int32 → Int32 → Option XS} {r49 : MS → Int32 → Int32 → Int32 → Option (Int32 × MS)} (hw : w < wc g0 (E.1 1)) : ∀ (d j z1 z2 : Nat) (s : XS) (m : MS) (L : Nat), wb g0 (E.1 1) w + j + d = we g0 (E.1 1) w → d < z1 → d < z2 → Sh s a n rc → WdE s (fun j => a (eR e j)) m e E → xA s (a (eR e 3)) = g0 → Wr s a m L → L + d ≤ 800 →
    ∃ s2 m2, X_Words_copyTo_38 F r3 z1 s (a (eR e 1)) (a 17) fr to (nI w) (nI (we g0 (E.1 1) w)) (nI (wb g0 (E.1 1) w + j)) = r3 s2 (a (eR e 1)) (a 17) fr to (nI (w + 1)) ∧ N_Mo_write_96 F r49 z2 m kk (nI e) (nI w) (nI j) = r49 m2 kk (nI e) (nI (w + 1)) ∧ FrR a s s2 [17] [18] [] ∧ FrM m m2 [37] [36] [] ∧ Wr s2 a m2 (L + d) := by
  intro d
  induction d with
  | zero =>
    intro j z1 z2 s m L hj hz1 hz2 H hW hg R hL
    obtain ⟨z1, rfl⟩ : ∃ y, z1 = y + 1 := ⟨z1 - 1, by omega⟩
    obtain ⟨z2, rfl⟩ : ∃ y, z2 = y + 1 := ⟨z2 - 1, by omega⟩
    have hwf := w_facts g0 (E.1 1)
    have h8 : E.1 1 ≤ 800 := hW.1.2.2.1
    obtain ⟨u1, u2⟩ := hwf.1 w hw
    have hwc := wc_le g0 (E.1 1)
    have hwc4 : wc g0 (E.1 1) ≤ 400 := by
      cases h : inW g0 (E.1 1) with
      | true => have := hwc.1 h; omega
      | false => have := hwc.2 h; omega
    refine ⟨s, m, ?_, ?_, FrR.refl a s _ _ _, FrM.refl m _ _ _, R⟩
    · have b1 : nI (we g0 (E.1 1) w) ≤ nI (wb g0 (E.1 1) w + j) := nI_le (by omega) (by omega)
      simp [X_Words_copyTo_38, BX_Words_copyTo_38, b1, nI_1]
    · obtain ⟨-, -, hS, -⟩ := hW
      simp only at hS
      rw [hg] at hS
      have e7 := (hS w hw).2
      have c1 : nI (400 * e) + nI w = nI (400 * e + w) := nI_add _ _
      have c2 : ¬ (nI (400 * e + w) < 0 ∨ 2400 ≤ (nI (400 * e + w)).toNatClampNeg) := nI_in (by omega) (by decide)
      have c3 : (nI (400 * e + w)).toNatClampNeg = 400 * e + w := nI_clamp (by omega)
      have c4 : nI (we g0 (E.1 1) w - wb g0 (E.1 1) w) ≤ nI j := nI_le (by omega) (by omega)
      show BN_Mo_write_96 F r49 _ m kk (nI e) (nI w) (nI j) = _
      unfold BN_Mo_write_96
      rw [nI_400, c1, if_neg c2, c3, e7, if_pos c4, nI_1]
  | succ d ih =>
    intro j z1 z2 s m L hj hz1 hz2 H hW hg R hL
    obtain ⟨z1, rfl⟩ : ∃ y, z1 = y + 1 := ⟨z1 - 1, by omega⟩
    obtain ⟨z2, rfl⟩ : ∃ y, z2 = y + 1 := ⟨z2 - 1, by omega⟩
    have hwf := w_facts g0 (E.1 1)
    have h8 : E.1 1 ≤ 800 := hW.1.2.2.1
    obtain ⟨u1, u2⟩ := hwf.1 w hw
    have hwc := wc_le g0 (E.1 1)
    have hwc4 : wc g0 (E.1 1) ≤ 400 := by
      cases h : inW g0 (E.1 1) with
      | true => have := hwc.1 h; omega
      | false => have := hwc.2 h; omega
    obtain ⟨⟨⟨tw, w0, w1, w2, tb, b0, tr, lr, -⟩, hb, -⟩, hT, hS, -⟩ := id hW
    simp only at tw w0 tb b0 tr lr hb hT hS
    rw [hg] at hS hT
    obtain ⟨e6, e7⟩ := hS w hw
    have et := hT (wb g0 (E.1 1) w + j) (by omega)
    have eb := X_Bytes_byteAt_in (F := F) tb b0 tr lr hb h8 (i := wb g0 (E.1 1) w + j) (by omega)
    rw [hg] at eb
    obtain ⟨x, hx⟩ : ∃ x, x = g0 (wb g0 (E.1 1) w + j) := ⟨_, rfl⟩
    rw [← hx] at eb et
    obtain ⟨s1, e1, f1, R1⟩ := wr_step (F := F) H R (by omega) (x &&& 255)
    rw [by8_and] at R1
    have t17 : xT s (a 17) = 1 := H.t 17
    obtain ⟨m1, hm1⟩ : ∃ y, y = sPut (sStI m 36 L (by8 x)) 37 (nI (L + 1)) := ⟨_, rfl⟩
    rw [← hm1] at R1
    have g1 : FrM m m1 [37] [36] [] := by rw [hm1]; exact FrM.wr m L _ _
    obtain ⟨hW1, hg1⟩ := hW.wr he H f1 g1
    obtain ⟨s2, m2, q1, q2, q3, q4, q5⟩ := ih (j + 1) z1 z2 s1 m1 (L + 1) (by omega) (by omega) (by omega) (H.frR f1) hW1 (hg1.trans hg) R1 (by omega)
    refine ⟨s2, m2, ?_, ?_, f1.trans q3, g1.trans q4, by rw [show L + (d + 1) = L + 1 + d by omega]; exact q5⟩
    · rw [← q1]
      have b1 : ¬ nI (we g0 (E.1 1) w) ≤ nI (wb g0 (E.1 1) w + j) := nI_ge (by omega) (by omega)
      have b2 : wb g0 (E.1 1) w + j + 1 = wb g0 (E.1 1) w + (j + 1) := by omega
      simp [X_Words_copyTo_38, BX_Words_copyTo_38, b1, xGetA, tw, w0, xIs, tb, eb, t17, e1, nI_1, b2, xpT, xpL, xpI, xpR, xpA, xpJ, xpO, xpZ, xInt, xN]
    · rw [← q2]
      have c1 : nI (400 * e) + nI w = nI (400 * e + w) := nI_add _ _
      have c2 : ¬ (nI (400 * e + w) < 0 ∨ 2400 ≤ (nI (400 * e + w)).toNatClampNeg) := nI_in (by omega) (by decide)
      have c3 : (nI (400 * e + w)).toNatClampNeg = 400 * e + w := nI_clamp (by omega)
      have c4 : ¬ nI (we g0 (E.1 1) w - wb g0 (E.1 1) w) ≤ nI j := nI_ge (by omega) (by omega)
      have c5 : nI (800 * e) + nI (wb g0 (E.1 1) w) + nI j = nI (800 * e + (wb g0 (E.1 1) w + j)) := by rw [nI_add, nI_add, Nat.add_assoc]
      have c6 : ¬ (nI (800 * e + (wb g0 (E.1 1) w + j)) < 0 ∨ 4800 ≤ (nI (800 * e + (wb g0 (E.1 1) w + j))).toNatClampNeg) := nI_in (by omega) (by decide)
      have c7 : (nI (800 * e + (wb g0 (E.1 1) w + j))).toNatClampNeg = 800 * e + (wb g0 (E.1 1) w + j) := nI_clamp (by omega)
      have c8 : ¬ (nI L < 0 ∨ 1600 ≤ (nI L).toNatClampNeg) := nI_in (by omega) (by decide)
      have c9 : (nI L).toNatClampNeg = L := nI_clamp (by omega)
      show BN_Mo_write_96 F r49 (N_Mo_write_96 F r49 z2) m kk (nI e) (nI w) (nI j) = _
      unfold BN_Mo_write_96
      rw [nI_400, nI_800, c1, c3, e6, e7, c5, c7, R.2.1, c9, ← et]
      rw [c3] at c2
      rw [c7] at c6
      rw [c9] at c8
      rw [if_neg c2, if_neg c4, if_neg c2, if_neg c6, if_neg c8, Option.bind_some, Option.bind_some]
      have e37 : (sStI m 36 L x.toInt8.toInt32).1 37 = nI L := R.2.1
      rw [e37, nI_1, nI_1, hm1]
      rfl
theorem write_out {e k : Nat} {E : Ed} (he : e < n) (h6 : n ≤ 6) (hk : k < E.1 4) (hE : E.1 4 ≤ 12) {g0 : Nat → Int32} (hF : 900 < F) : ∀ (d w z1 z2 : Nat) (s : XS) (m : MS) (L : Nat), w + d = E.2 7 k → E.2 5 k ≤ w → d < z1 → d < z2 → Sh s a n rc → WdE s (fun j => a (eR e j)) m e E → NE m e E → xA s (a (eR e 3)) = g0 → Wr s a m L → (w = E.2 5 k → L = 0) → (E.2 5 k < w → 1 ≤ L ∧ L + wb g0 (E.1 1) (E.2 5 k) ≤ we g0 (E.1 1) (w - 1)) →
    ∃ s2 m2 L2, X_Words_copyTo_3 F z1 s (a (eR e 1)) (a 17) (nI (E.2 5 k)) (nI (E.2 7 k)) (nI w) = some s2 ∧ N_Mo_write_49 F z2 m (nI k) (nI e) (nI w) = some (nI L2, m2) ∧ FrR a s s2 [17] [18] [] ∧ FrM m m2 [37] [36] [] ∧ L2 ≤ 800 ∧ Wr s2 a m2 L2 := by
  intro d
  induction d with
  | zero =>
    intro w z1 z2 s m L hw hfw hz1 hz2 H hW hN hg R h0 h1
    obtain ⟨z1, rfl⟩ : ∃ y, z1 = y + 1 := ⟨z1 - 1, by omega⟩
    obtain ⟨z2, rfl⟩ : ∃ y, z2 = y + 1 := ⟨z2 - 1, by omega⟩
    have h8 : E.1 1 ≤ 800 := hW.1.2.2.1
    have hwc := wc_le g0 (E.1 1)
    obtain ⟨r1, r2⟩ := hW.2.2.2 k hk
    simp only at r2
    rw [hg] at r2
    have hwc4 : wc g0 (E.1 1) ≤ 400 := by
      cases h : inW g0 (E.1 1) with
      | true => have := hwc.1 h; omega
      | false => have := hwc.2 h; omega
    have := (w_facts g0 (E.1 1)).1 (w - 1) (by omega)
    have hL := (h1 (by omega)).2
    refine ⟨s, m, L, ?_, ?_, FrR.refl a s _ _ _, FrM.refl m _ _ _, by omega, R⟩
    · have b1 : nI (E.2 7 k) ≤ nI w := nI_le (by omega) (by omega)
      simp [X_Words_copyTo_3, BX_Words_copyTo_3, b1]
    · have e18 := (hN.2.2.2 k hk).2.2.1
      have c1 : nI (12 * e) + nI k = nI (12 * e + k) := nI_add _ _
      have c2 : ¬ (nI (12 * e + k) < 0 ∨ 72 ≤ (nI (12 * e + k)).toNatClampNeg) := nI_in (by omega) (by decide)
      have c3 : (nI (12 * e + k)).toNatClampNeg = 12 * e + k := nI_clamp (by omega)
      have e18' : m.2.1 18 (12 * e + k) = nI (E.2 7 k - 1) := by
        have h9 : nI (E.2 7 k) = nI (E.2 7 k - 1) + 1 := by rw [nI_1]; congr 1; omega
        rw [h9] at e18
        exact (Int32.add_left_inj _).mp e18
      have c4 : nI (E.2 7 k - 1) < nI w := nI_lt (by omega) (by omega)
      show BN_Mo_write_49 F _ m (nI k) (nI e) (nI w) = _
      unfold BN_Mo_write_49
      rw [nI_12, c1, if_neg c2, c3, e18', if_pos c4, R.2.1]
  | succ d ih =>
    intro w z1 z2 s m L hw hfw hz1 hz2 H hW hN hg R h0 h1
    obtain ⟨z1, rfl⟩ : ∃ y, z1 = y + 1 := ⟨z1 - 1, by omega⟩
    obtain ⟨z2, rfl⟩ : ∃ y, z2 = y + 1 := ⟨z2 - 1, by omega⟩
    have h8 : E.1 1 ≤ 800 := hW.1.2.2.1
    have hwc := wc_le g0 (E.1 1)
    obtain ⟨r1, r2⟩ := hW.2.2.2 k hk
    simp only at r2
    rw [hg] at r2
    have hwc4 : wc g0 (E.1 1) ≤ 400 := by
      cases h : inW g0 (E.1 1) with
      | true => have := hwc.1 h; omega
      | false => have := hwc.2 h; omega
    have hwf := w_facts g0 (E.1 1)
    obtain ⟨u1, u2⟩ := hwf.1 w (by omega)
    have t17 : xT s (a 17) = 1 := H.t 17
    -- the blank
    have st : ∃ s1 m1 L1, FrR a s s1 [17] [18] [] ∧ FrM m m1 [37] [36] [] ∧ Wr s1 a m1 L1 ∧ L1 + wb g0 (E.1 1) (E.2 5 k) ≤ wb g0 (E.1 1) w ∧ BX_Words_copyTo_3 F (X_Words_copyTo_3 F z1) s (a (eR e 1)) (a 17) (nI (E.2 5 k)) (nI (E.2 7 k)) (nI w) = X_Words_copyTo_22 F (X_Words_copyTo_3 F z1) s1 (a (eR e 1)) (a 17) (nI (E.2 5 k)) (nI (E.2 7 k)) (nI w) ∧ BN_Mo_write_49 F (N_Mo_write_49 F z2) m (nI k) (nI e) (nI w) = N_Mo_write_93 F (N_Mo_write_49 F z2) m1 (nI k) (nI e) (nI w) := by
      have b1 : ¬ nI (E.2 7 k) ≤ nI w := nI_ge (by omega) (by omega)
      have e18 := (hN.2.2.2 k hk).2.2.1
      have c1 : nI (12 * e) + nI k = nI (12 * e + k) := nI_add _ _
      have c2 : ¬ (nI (12 * e + k) < 0 ∨ 72 ≤ (nI (12 * e + k)).toNatClampNeg) := nI_in (by omega) (by decide)
      have c3 : (nI (12 * e + k)).toNatClampNeg = 12 * e + k := nI_clamp (by omega)
      have e18' : m.2.1 18 (12 * e + k) = nI (E.2 7 k - 1) := by
        have h9 : nI (E.2 7 k) = nI (E.2 7 k - 1) + 1 := by rw [nI_1]; congr 1; omega
        rw [h9] at e18
        exact (Int32.add_left_inj _).mp e18
      have c4 : ¬ nI (E.2 7 k - 1) < nI w := nI_nlt (by omega) (by omega)
      by_cases hf : w = E.2 5 k
      · have hL := h0 hf
        subst hL
        refine ⟨s, m, 0, FrR.refl a s _ _ _, FrM.refl m _ _ _, R, by rw [hf]; omega, ?_, ?_⟩
        · have b2 : nI w ≤ nI (E.2 5 k) := nI_le (by omega) (by omega)
          unfold BX_Words_copyTo_3
          rw [if_neg b1, if_pos b2]
        · have c5 : nI 0 ≤ 0 := by decide
          unfold BN_Mo_write_49
          rw [nI_12, c1, if_neg c2, c3, e18', if_neg c4, R.2.1, if_pos c5]
      · obtain ⟨l1, l2⟩ := h1 (by omega)
        have hws := hwf.2.1 (w - 1) (by omega)
        rw [show w - 1 + 1 = w by omega] at hws
        have hL8 : L < 800 := by omega
        obtain ⟨s1, e1, f1, R1⟩ := wr_step (F := F) H R hL8 32
        refine ⟨s1, _, L + 1, f1, FrM.wr m L _ _, R1, by omega, ?_, ?_⟩
        · have b2 : ¬ nI w ≤ nI (E.2 5 k) := nI_ge (by omega) (by omega)
          unfold BX_Words_copyTo_3
          rw [if_neg b1, if_neg b2]
          simp [xIs, t17, e1]
        · have c5 : ¬ nI L ≤ 0 := nI_nle (by omega) (by omega)
          have c8 : ¬ (nI L < 0 ∨ 1600 ≤ (nI L).toNatClampNeg) := nI_in (by omega) (by decide)
          have c9 : (nI L).toNatClampNeg = L := nI_clamp (by omega)
          unfold BN_Mo_write_49
          rw [nI_12, c1, if_neg c2, c3, e18', if_neg c4, R.2.1, if_neg c5, if_neg c8, c9, Option.bind_some, Option.bind_some]
          have e37 : (sStI m 36 L (32 : Int32).toInt8.toInt32).1 37 = nI L := R.2.1
          rw [e37, nI_1]
          rfl
    obtain ⟨s1, m1, L1, f1, g1, R1, hL1, x1, x2⟩ := st
    obtain ⟨hW1, hg1⟩ := hW.wr he H f1 g1
    have H1 := H.frR f1
    have hg1' := hg1.trans hg
    obtain ⟨es, ee⟩ := X_startOf_eq (F := F) hW1.1 (i := w) (by simp only; rw [hg1']; omega)
    simp only at es ee
    rw [hg1'] at es ee
    have tw1 : xT s1 (a (eR e 1)) = 11 := hW1.1.1.1
    obtain ⟨s2, m2, q1, q2, q3, q4, q5⟩ := write_in (F := F) (kk := nI k) (fr := nI (E.2 5 k)) (to := nI (E.2 7 k)) he h6 (g0 := g0) (E := E) (w := w) (r3 := X_Words_copyTo_3 F z1) (r49 := N_Mo_write_49 F z2) (by omega) (we g0 (E.1 1) w - wb g0 (E.1 1) w) 0 F F s1 m1 L1 (by omega) (by omega) (by omega) H1 hW1 hg1' R1 (by omega)
    obtain ⟨hW2, hg2⟩ := hW1.wr he H1 q3 q4
    have hN1 : NE m1 e E := by
      unfold NE
      rw [g1.2.1 4 (by decide), g1.2.1 13 (by decide), g1.2.1 10 (by decide), g1.2.1 19 (by decide), g1.2.1 20 (by decide), g1.2.1 11 (by decide), g1.2.1 12 (by decide), g1.2.1 17 (by decide), g1.2.1 14 (by decide), g1.2.1 18 (by decide), g1.2.1 15 (by decide), g1.2.1 16 (by decide)]
      exact hN
    have hN2 : NE m2 e E := by
      unfold NE
      rw [q4.2.1 4 (by decide), q4.2.1 13 (by decide), q4.2.1 10 (by decide), q4.2.1 19 (by decide), q4.2.1 20 (by decide), q4.2.1 11 (by decide), q4.2.1 12 (by decide), q4.2.1 17 (by decide), q4.2.1 14 (by decide), q4.2.1 18 (by decide), q4.2.1 15 (by decide), q4.2.1 16 (by decide)]
      exact hN1
    obtain ⟨s3, m3, L3, y1, y2, y3, y4, y5, y6⟩ := ih (w + 1) z1 z2 s2 m2 (L1 + (we g0 (E.1 1) w - wb g0 (E.1 1) w)) (by omega) (by omega) (by omega) (by omega) (H1.frR q3) hW2 hN2 (hg2.trans hg1') q5 (by omega) (fun _ => ⟨by omega, by rw [show w + 1 - 1 = w by omega]; omega⟩)
    refine ⟨s3, m3, L3, ?_, ?_, (f1.trans q3).trans y3, (g1.trans q4).trans y4, y5, y6⟩
    · rw [← y1, ← q1]
      show BX_Words_copyTo_3 F (X_Words_copyTo_3 F z1) s (a (eR e 1)) (a 17) (nI (E.2 5 k)) (nI (E.2 7 k)) (nI w) = _
      rw [x1]
      simp [X_Words_copyTo_22, xIs, tw1, ee, es]
    · rw [← y2, ← q2]
      show BN_Mo_write_49 F (N_Mo_write_49 F z2) m (nI k) (nI e) (nI w) = _
      rw [x2]
      rfl
theorem write_both (I : Inv s a m n rc Es nt v B) (hF : 900 < F) (day x : Int32) : ∃ r s2 m2, X_LT_write F s (a 0) day x = some (r, s2) ∧ N_Mo_write F m day x = some (r, m2) ∧ Inv s2 a m2 n rc Es nt v B := by
  have I2 := I.code 0
  obtain ⟨H, h1, h2, h3, h4, h5, h6, h7⟩ := I2
  have t0 : xT s (a 0) = 12 := H.t 0
  have r0_0 : xR s (a 0) 0 = some (a 1) := H.r 0 0
  have r0_2 : xR s (a 0) 2 = some (a 26) := H.r 0 2
  have r0_3 : xR s (a 0) 3 = some (a 34) := H.r 0 3
  have r0_4 : xR s (a 0) 4 = some (a 2) := H.r 0 4
  have r0_5 : xR s (a 0) 5 = some (a 5) := H.r 0 5
  have r0_6 : xR s (a 0) 6 = some (a 7) := H.r 0 6
  have r0_7 : xR s (a 0) 7 = some (a 12) := H.r 0 7
  have r0_8 : xR s (a 0) 8 = some (a 17) := H.r 0 8
  have r0_9 : xR s (a 0) 9 = some (a 19) := H.r 0 9
  have t17 : xT s (a 17) = 1 := H.t 17
  have r17_0 : xR s (a 17) 0 = some (a 18) := H.r 17 0
  have t18 : xT s (a 18) = 21 := H.t 18
  have l18 : xL s (a 18) = 800 := H.l 18
  have en := h5.en H
  have n6 := en.2.1
  have eX := editionOn_eq (F := F) H h5 (by omega) day
  have eN := editionOf_eq (F := F) en (by omega) day
  cases he : eo Es day n with
  | none =>
    rw [he] at eX eN
    refine ⟨-1, s, sPut m 0 0, ?_, ?_, I.code 0⟩
    · simp [X_LT_write, xIs, t0, eX, hCase]
    · simp [N_Mo_write, eN, oI]
  | some e =>
    rw [he] at eX eN
    have hen := eo_lt he
    obtain ⟨q1, q2, q3, q4⟩ := h5.2 e hen
    have K := H.ed hen
    have te : xT s (a (eR e 0)) = 2 := K.t 0
    have te2 : xT s (a (eR e 12)) = 46 := K.t 12
    have le2 : xL s (a (eR e 12)) = 12 := K.l 12
    have re : xR s (a (eR e 0)) 3 = some (a (eR e 12)) := K.r 0 3
    have re1 : xR s (a (eR e 0)) 0 = some (a (eR e 1)) := K.r 0 0
    have h12 := q3.2.2.2.1
    have e12 : Int32.ofNat 12 = nI 12 := rfl
    have d0 : ¬ nI e < 0 := nI_pos (by omega)
    have d1 : (nI e).toNatClampNeg = e := nI_clamp (by omega)
    have d2 : ¬ 6 ≤ e := by omega
    have d3 : (sPut m 0 0).2.1 13 e = nI ((Es e).1 4) := q2.1.2.1
    rcases pk_ix x (n := (Es e).1 4) (by omega) with c | c | ⟨k, hk, rfl⟩
    · refine ⟨-1, s, sPut m 0 0, ?_, ?_, I.code 0⟩
      · have er : X_Edition_ruleAt F s (a (eR e 0)) x = some (none, s) := by simp [X_Edition_ruleAt, c]
        simp [X_LT_write, xIs, t0, eX, hCase, te, er]
      · simp [N_Mo_write, eN, oI, d0, c]
    · refine ⟨-1, s, sPut m 0 0, ?_, ?_, I.code 0⟩
      · have er : X_Edition_ruleAt F s (a (eR e 0)) x = some (none, s) := by
          by_cases c0 : x < 0
          · simp [X_Edition_ruleAt, c0]
          · simp [X_Edition_ruleAt, c0, xGetI, te, q1.1.2, c, xpT, xpL, xpI, xpR, xpA, xpJ, xpO, xpZ, xInt, xN]
        simp [X_LT_write, xIs, t0, eX, hCase, te, er]
      · by_cases c0 : x < 0
        · simp [N_Mo_write, eN, oI, d0, c0]
        · simp [N_Mo_write, eN, oI, d0, c0, d1, d2, d3, Int32.not_lt.mpr c]
    · have b0 : ¬ nI k < 0 := nI_pos (by omega)
      have b1 : ¬ nI ((Es e).1 4) ≤ nI k := nI_ge (by omega) (by omega)
      have b2 : ¬ nI 12 ≤ nI k := nI_ge (by omega) (by decide)
      have b3 : (nI k).toNatClampNeg = k := nI_clamp (by omega)
      have b4 : ¬ 12 ≤ k := by omega
      have b5 : nI k < nI ((Es e).1 4) := nI_lt hk (by omega)
      have ro : xO s (a (eR e 12)) k = some (a (eR e (13 + k))) := K.2.2.1 k (by omega)
      have tk : xT s (a (eR e (13 + k))) = 7 := K.rt (by omega)
      have er : X_Edition_ruleAt F s (a (eR e 0)) (nI k) = some (some (a (eR e (13 + k))), s) := by
        simp [X_Edition_ruleAt, b0, xGetI, te, q1.1.2, b1, xGetA, re, xLen, te2, le2, e12, b2, xLdO, b3, b4, ro, xpT, xpL, xpI, xpR, xpA, xpJ, xpO, xpZ, xInt, xN]
      -- the line is cleared
      obtain ⟨s1, hs1⟩ : ∃ y : XS, y = (xT s, xL s, xUp (xI s) (a 17) 1 0, xR s, xA s, xJ s, xO s, xZ s) := ⟨_, rfl⟩
      have ecl : X_Bytes_clear F s (a 17) = some s1 := by rw [hs1]; simp [X_Bytes_clear, xPutI, t17, xpT, xpL, xpI, xpR, xpA, xpJ, xpO, xpZ, xInt, xN]
      have f1 : FrR a s s1 [17] [18] [] := by
        rw [hs1]
        exact ⟨rfl, rfl, rfl, rfl, rfl, fun c hc => xUp_ne _ _ _ (fun e => hc (by simp [e])), fun _ _ => rfl, fun _ _ => rfl⟩
      have g1 : FrM (sPut m 0 0) (sPut (sPut m 0 0) 37 0) [37] [36] [] := (FrM.put _ 37 0).mono (by simp) (by simp) (by simp)
      have R1 : Wr s1 a (sPut (sPut m 0 0) 37 0) 0 := ⟨by rw [hs1]; simp [xUp, nIk0, xpT, xpL, xpI, xpR, xpA, xpJ, xpO, xpZ, xInt, xN], by simp [sPut, upd, nIk0], fun i hi => by omega⟩
      have H1 := H.frR f1
      have hW := h7 e hen
      obtain ⟨hW1, hg1⟩ := hW.wr hen H f1 g1
      obtain ⟨w1, w2⟩ := hW.2.2.2 k hk
      have hN1 : NE (sPut (sPut m 0 0) 37 0) e (Es e) := q2
      have hwc := wc_le (xA s (a (eR e 3))) ((Es e).1 1)
      have h8 : (Es e).1 1 ≤ 800 := hW.1.2.2.1
      have hwc4 : wc (xA s (a (eR e 3))) ((Es e).1 1) ≤ 400 := by
        cases h : inW (xA s (a (eR e 3))) ((Es e).1 1) with
        | true => have := hwc.1 h; omega
        | false => have := hwc.2 h; omega
      simp only at w2
      obtain ⟨s2, m2, L2, y1, y2, y3, y4, y5, y6⟩ := write_out (F := F) hen n6 hk h12 (g0 := xA s (a (eR e 3))) hF ((Es e).2 7 k - (Es e).2 5 k) ((Es e).2 5 k) F F s1 (sPut (sPut m 0 0) 37 0) 0 (by omega) (by omega) (by omega) (by omega) H1 hW1 hN1 hg1 R1 (fun _ => rfl) (fun h => by omega)
      have ff := f1.trans y3
      have gg := g1.trans y4
      have e17 := (q1.2.2.2 k hk)
      have t01 : xT s1 (a 0) = 12 := H1.t 0
      have r01 : xR s1 (a 0) 8 = some (a 17) := H1.r 0 8
      have t02 : xT s2 (a 0) = 12 := (H.frR ff).t 0
      have r02 : xR s2 (a 0) 8 = some (a 17) := (H.frR ff).r 0 8
      have t172 : xT s2 (a 17) = 1 := (H.frR ff).t 17
      have te1 : xT s1 (a (eR e 0)) = 2 := by rw [f1.1]; exact te
      have tk1 : xT s1 (a (eR e (13 + k))) = 7 := by rw [f1.1]; exact tk
      have re11 : xR s1 (a (eR e 0)) 0 = some (a (eR e 1)) := by rw [f1.2.2.1]; exact re1
      have tw1 : xT s1 (a (eR e 1)) = 11 := by rw [f1.1]; exact K.t 1
      have ik : xI s1 (a (eR e (13 + k))) = xI s (a (eR e (13 + k))) := f1.eI H hen (by omega) (by decide)
      have i0 : xI s1 (a (eR e (13 + k))) 0 = nI ((Es e).2 5 k) := by rw [ik]; exact e17.1
      have i2 : xI s1 (a (eR e (13 + k))) 2 = nI ((Es e).2 7 k) := by rw [ik]; exact e17.2.2.1
      refine ⟨nI L2, s2, m2, ?_, ?_, H.frR ff, h1.fr H ff gg (by decide), h2.fr H ff gg (by decide), h3.fr H ff gg (by decide), ⟨L2, y5, y6.1, y6.2.1, y6.2.2⟩, h5.fr H ff gg (by decide), h6.fr H ff gg (by decide), fun e he => (h7 e he).fr H he ff gg (by decide)⟩
      · have ecp : X_Words_copyTo F s1 (a (eR e 1)) (a 17) (nI ((Es e).2 5 k)) (nI ((Es e).2 7 k)) = some s2 := y1
        simp [X_LT_write, xIs, t0, eX, hCase, te, er, xGetA, r0_8, t17, ecl, te1, re11, t01, r01, xGetI, tk1, i0, i2, tw1, ecp, t02, r02, t172, y6.1, xpT, xpL, xpI, xpR, xpA, xpJ, xpO, xpZ, xInt, xN]
      · have c12 : nI (12 * e) + nI k = nI (12 * e + k) := nI_add _ _
        have c13 : ¬ nI (12 * e + k) < 0 := nI_pos (by omega)
        have c14 : (nI (12 * e + k)).toNatClampNeg = 12 * e + k := nI_clamp (by omega)
        have c15 : ¬ 72 ≤ 12 * e + k := by omega
        have e17n : (sPut (sPut m 0 0) 37 0).2.1 17 (12 * e + k) = nI ((Es e).2 5 k) := (q2.2.2.2 k hk).1
        simp [N_Mo_write, eN, oI, d0, b0, d1, d2, d3, b5, nI_12, c12, c13, c14, c15, e17n, y2]
end WRITE
