/-! THE TAPE AND ITS WORDS -/
def by8 (u : Int32) : Int32 := u.toInt8.toInt32
theorem by8_by8 (u : Int32) : (by8 u).toInt8.toInt32 = by8 u := by simp [by8]
theorem by8_255 (x : Int32) : by8 x &&& 255 = x &&& 255 := by
  unfold by8
  apply Int32.toBitVec_inj.mp
  rw [Int32.toBitVec_and, Int32.toBitVec_and, Int8.toBitVec_toInt32, Int32.toBitVec_toInt8]
  apply BitVec.eq_of_getLsbD_eq
  intro i hi
  rw [BitVec.getLsbD_and, BitVec.getLsbD_and]
  have hm : ∀ i < 32, 8 ≤ i → (255 : Int32).toBitVec.getLsbD i = false := by decide
  rcases Nat.lt_or_ge i 8 with z | z
  · rw [BitVec.getLsbD_signExtend, BitVec.getLsbD_signExtend, if_pos z, if_pos hi]
    simp only [z, hi, decide_true, Bool.true_and]
  · rw [hm i hi z]; simp
theorem by8_and (x : Int32) : by8 (x &&& 255) = by8 x := by
  have h8 : (x &&& 255).toInt8 = x.toInt8 := by
    apply Int8.toBitVec_inj.mp
    rw [Int32.toBitVec_toInt8, Int32.toBitVec_toInt8, Int32.toBitVec_and]
    apply BitVec.eq_of_getLsbD_eq
    intro i hi
    have hm : ∀ i < 8, (255 : Int32).toBitVec.getLsbD i = true := by decide
    rw [BitVec.getLsbD_signExtend, BitVec.getLsbD_signExtend, BitVec.getLsbD_and, if_pos (by omega), if_pos (by omega), hm i hi]
    simp
  unfold by8
  rw [h8]
theorem by8_eq (u : Int32) {k : Nat} (hk : k < 128) : by8 u = nI k ↔ u &&& 255 = nI k := by
  have h1 := sc_eq (by8_by8 u) (n := k) (by omega)
  have h2 : ∀ k, k < 128 → (nI k).toInt8.toInt32 = nI k := by decide +kernel
  rw [h2 k hk, by8_255] at h1
  exact h1
/-- a blank -/
def isB (x : Int32) : Bool := x == 32 || x == 10
theorem isB_by8 (u : Int32) : isB (by8 u) = true ↔ (u &&& 255 = 32 ∨ u &&& 255 = 10) := by
  have h1 := by8_eq u (k := 32) (by decide)
  have h2 := by8_eq u (k := 10) (by decide)
  have e1 : nI 32 = (32 : Int32) := rfl
  have e2 : nI 10 = (10 : Int32) := rfl
  rw [e1] at h1
  rw [e2] at h2
  unfold isB
  rw [Bool.or_eq_true, beq_iff_eq, beq_iff_eq, h1, h2]
/-- a word goes up to n -/
def inW (f : Nat → Int32) : Nat → Bool
  | 0 => false
  | k + 1 => !isB (f k)
/-- how many words begin before n; where they begin; where they end -/
def wc (f : Nat → Int32) : Nat → Nat
  | 0 => 0
  | n + 1 => if isB (f n) then wc f n else if inW f n then wc f n else wc f n + 1
def wb (f : Nat → Int32) : Nat → Nat → Nat
  | 0, _ => 0
  | n + 1, i => if isB (f n) then wb f n i else if inW f n then wb f n i else if i = wc f n then n else wb f n i
def we (f : Nat → Int32) : Nat → Nat → Nat
  | 0, _ => 0
  | n + 1, i => if isB (f n) then we f n i else if i + 1 = wc f (n + 1) then n + 1 else we f n i
theorem inW_congr {f g : Nat → Int32} : ∀ {n : Nat}, (∀ i, i < n → f i = g i) → inW f n = inW g n
  | 0, _ => rfl
  | k + 1, h => by simp only [inW]; rw [h k (by omega)]
theorem wc_congr {f g : Nat → Int32} : ∀ {n : Nat}, (∀ i, i < n → f i = g i) → wc f n = wc g n := by
  intro n
  induction n with
  | zero => intro _; rfl
  | succ n ih =>
    intro h
    simp only [wc]
    rw [h n (by omega), ih (fun i hi => h i (by omega)), inW_congr (fun i hi => h i (by omega))]
theorem wb_congr {f g : Nat → Int32} : ∀ {n : Nat}, (∀ i, i < n → f i = g i) → ∀ j, wb f n j = wb g n j := by
  intro n
  induction n with
  | zero => intro _ _; rfl
  | succ n ih =>
    intro h j
    have h2 : ∀ i, i < n → f i = g i := fun i hi => h i (by omega)
    simp only [wb]
    rw [h n (by omega), ih h2, inW_congr h2, wc_congr h2]
theorem we_congr {f g : Nat → Int32} : ∀ {n : Nat}, (∀ i, i < n → f i = g i) → ∀ j, we f n j = we g n j := by
  intro n
  induction n with
  | zero => intro _ _; rfl
  | succ n ih =>
    intro h j
    have h2 : ∀ i, i < n → f i = g i := fun i hi => h i (by omega)
    simp only [we]
    rw [h n (by omega), ih h2, wc_congr h]
theorem wc_le (f : Nat → Int32) : ∀ n, (inW f n = true → 2 * wc f n ≤ n + 1 ∧ 1 ≤ wc f n) ∧ (inW f n = false → 2 * wc f n ≤ n) := by
  intro n
  induction n with
  | zero => exact ⟨fun h => by simp [inW] at h, fun _ => by simp [wc]⟩
  | succ n ih =>
    have e1 : inW f (n + 1) = !isB (f n) := rfl
    have e2 : wc f (n + 1) = if isB (f n) then wc f n else if inW f n then wc f n else wc f n + 1 := rfl
    rw [e1, e2]
    cases hb : isB (f n) with
    | true =>
      cases hi : inW f n with
      | true => have := (ih.1 hi); exact ⟨fun h => by simp at h, fun _ => by simp; omega⟩
      | false => have := (ih.2 hi); exact ⟨fun h => by simp at h, fun _ => by simp; omega⟩
    | false =>
      cases hi : inW f n with
      | true => have := (ih.1 hi); exact ⟨fun _ => by simp; omega, fun h => by simp at h⟩
      | false => have := (ih.2 hi); exact ⟨fun _ => by simp; omega, fun h => by simp at h⟩
/-- an object of Words: w, its bytes b with their row r, its starts p, its ends q -/
def WoSh (s : XS) (w b r p q : Nat) : Prop := xT s w = 11 ∧ xR s w 0 = some b ∧ xR s w 1 = some p ∧ xR s w 2 = some q ∧ xT s b = 1 ∧ xR s b 0 = some r ∧ xT s r = 21 ∧ xL s r = 800 ∧ xT s p = 20 ∧ xL s p = 400 ∧ xT s q = 20 ∧ xL s q = 400 ∧ p ≠ q ∧ w ≠ b
def WoAt (s : XS) (w b r p q n : Nat) : Prop := WoSh s w b r p q ∧ xI s b 1 = nI n ∧ n ≤ 800 ∧ xI s w 3 = nI (wc (xA s r) n) ∧ xI s w 4 = (if inW (xA s r) n then 1 else 0) ∧ ∀ i, i < wc (xA s r) n → xA s p i = nI (wb (xA s r) n i) ∧ xA s q i = nI (we (xA s r) n i)
section WORDS
variable {F : Nat} {s : XS} {w b r p q n : Nat}
theorem X_Bytes_append_eq {s : XS} {b r n : Nat} (tb : xT s b = 1) (rb : xR s b 0 = some r) (tr : xT s r = 21) (lr : xL s r = 800) (hn : xI s b 1 = nI n) (h8 : n < 800) (u : Int32) : X_Bytes_append F s b u = some (1, xT s, xL s, xUp (xI s) b 1 (nI (n + 1)), xR s, xUp (xA s) r n (by8 u), xJ s, xO s, xZ s) := by
  have h1 : ¬ nI n < 0 := nI_pos (by omega)
  have e8 : Int32.ofNat 800 = nI 800 := rfl
  have h2 : nI n < nI 800 := nI_lt h8 (by decide)
  have hc : (nI n).toNatClampNeg = n := nI_clamp (by omega)
  have h3 : ¬ 800 ≤ n := by omega
  have h4 : u.toInt8.toInt32.toInt8.toInt32 = by8 u := by8_by8 u
  simp [X_Bytes_append, xGetI, tb, hn, xGetA, rb, xLen, tr, lr, e8, h1, h2, xStB, xSt, hc, h3, h4, xpT, xpL, xpI, xpR, xpA, xpJ, xpO, xpZ, xInt, xN, xPutI, nI_1]
  rfl
/-- begin and lengthen -/
theorem X_Words_begin_eq {s : XS} {w b r p q c : Nat} (W0 : WoSh s w b r p q) (hc : xI s w 3 = nI c) (h4 : c < 400) (v : Int32) : X_Words_begin F s w v = some (xT s, xL s, xUp (xI s) w 3 (nI (c + 1)), xR s, xUp (xA s) p c v, xJ s, xO s, xZ s) := by
  obtain ⟨tw, w0, w1, w2, tb, b0, tr, lr, tp, lp, tq, lq, -, -⟩ := W0
  have h1 : ¬ nI c < 0 := nI_pos (by omega)
  have e4 : Int32.ofNat 400 = nI 400 := rfl
  have h2 : ¬ nI 400 ≤ nI c := nI_ge h4 (by decide)
  have hcl : (nI c).toNatClampNeg = c := nI_clamp (by omega)
  have h3 : ¬ 400 ≤ c := by omega
  simp [X_Words_begin, xGetI, tw, hc, h1, xGetA, w1, xLen, tp, lp, e4, h2, xStI, xSt, hcl, h3, xpT, xpL, xpI, xpR, xpA, xpJ, xpO, xpZ, xInt, xN, xPutI, nI_1]
theorem X_Words_lengthen_eq {s : XS} {w b r p q c : Nat} (W0 : WoSh s w b r p q) (hc : xI s w 3 = nI (c + 1)) (h4 : c < 400) (v : Int32) : X_Words_lengthen F s w v = some (xT s, xL s, xI s, xR s, xUp (xA s) q c v, xJ s, xO s, xZ s) := by
  obtain ⟨tw, w0, w1, w2, tb, b0, tr, lr, tp, lp, tq, lq, -, -⟩ := W0
  have h0 : nI (c + 1) - 1 = nI c := nI_pred c
  have h1 : ¬ nI c < 0 := nI_pos (by omega)
  have e4 : Int32.ofNat 400 = nI 400 := rfl
  have h2 : ¬ nI 400 ≤ nI c := nI_ge h4 (by decide)
  have hcl : (nI c).toNatClampNeg = c := nI_clamp (by omega)
  have h3 : ¬ 400 ≤ c := by omega
  simp [X_Words_lengthen, xGetI, tw, hc, h0, h1, xGetA, w2, xLen, tq, lq, e4, h2, xStI, xSt, hcl, h3, xpT, xpL, xpI, xpR, xpA, xpJ, xpO, xpZ, xInt, xN]
/-- what a change of some ints and int arrays leaves -/
def Fr (s s2 : XS) (ob ar : List Nat) : Prop := xT s2 = xT s ∧ xL s2 = xL s ∧ xR s2 = xR s ∧ xJ s2 = xJ s ∧ xO s2 = xO s ∧ xZ s2 = xZ s ∧ (∀ c, c ∉ ob → xI s2 c = xI s c) ∧ ∀ c, c ∉ ar → xA s2 c = xA s c
theorem WoSh.fr {s s2 : XS} {w b r p q : Nat} (h : WoSh s w b r p q) (hT : xT s2 = xT s) (hL : xL s2 = xL s) (hR : xR s2 = xR s) : WoSh s2 w b r p q := by
  unfold WoSh
  rw [hT, hL, hR]
  exact h
theorem WoSh.ra {s : XS} {w b r p q : Nat} (h : WoSh s w b r p q) : r ≠ p ∧ r ≠ q := by
  obtain ⟨tw, w0, w1, w2, tb, b0, tr, lr, tp, lp, tq, lq, -, -⟩ := h
  exact ⟨fun e => by rw [e, tp] at tr; omega, fun e => by rw [e, tq] at tr; omega⟩
theorem upd_lt {f : Nat → Int32} {n : Nat} {x : Int32} : ∀ i, i < n → upd f n x i = f i := fun i hi => by
  have : i ≠ n := by omega
  simp [upd, this]
theorem X_Words_append_eq (W0 : WoAt s w b r p q n) (h8 : n < 800) (u : Int32) : ∃ s2, X_Words_append F s w u = some (1, s2) ∧ WoAt s2 w b r p q (n + 1) ∧ xA s2 r = upd (xA s r) n (by8 u) ∧ Fr s s2 [w, b] [r, p, q] := by
  obtain ⟨Wh, hb, hn, h3, h4, h5⟩ := W0
  have Wh0 := Wh
  obtain ⟨tw, w0, w1, w2, tb, b0, tr, lr, tp, lp, tq, lq, hpq, hwb⟩ := Wh0
  obtain ⟨hrp, hrq⟩ := Wh.ra
  have e1 := X_Bytes_append_eq (F := F) tb b0 tr lr hb h8 (u &&& 255)
  rw [by8_and] at e1
  obtain ⟨f, hf⟩ : ∃ f, f = xA s r := ⟨_, rfl⟩
  rw [← hf] at h3 h4 h5
  obtain ⟨f2, hf2⟩ : ∃ g, g = upd f n (by8 u) := ⟨_, rfl⟩
  have fn : f2 n = by8 u := by rw [hf2]; simp [upd]
  have cw : wc f2 n = wc f n := by rw [hf2]; exact wc_congr upd_lt
  have ci : inW f2 n = inW f n := by rw [hf2]; exact inW_congr upd_lt
  have cb : ∀ j, wb f2 n j = wb f n j := by rw [hf2]; exact wb_congr upd_lt
  have ce : ∀ j, we f2 n j = we f n j := by rw [hf2]; exact we_congr upd_lt
  have hle := wc_le f n
  -- behind the byte
  obtain ⟨s1, hs1⟩ : ∃ y : XS, y = (xT s, xL s, xUp (xI s) b 1 (nI (n + 1)), xR s, xUp (xA s) r n (by8 u), xJ s, xO s, xZ s) := ⟨_, rfl⟩
  rw [← hs1] at e1
  have W1 : WoSh s1 w b r p q := Wh.fr (by rw [hs1]) (by rw [hs1]) (by rw [hs1])
  have a1r : xA s1 r = f2 := by rw [hs1, hf2, hf]; exact xUp_row _ _ _ _
  have a1p : xA s1 p = xA s p := by rw [hs1]; exact xUp_ne _ _ _ (Ne.symm hrp)
  have a1q : xA s1 q = xA s q := by rw [hs1]; exact xUp_ne _ _ _ (Ne.symm hrq)
  have i1w : ∀ k, xI s1 w k = xI s w k := fun k => by rw [hs1]; exact congrFun (xUp_ne _ _ _ hwb) k
  have i1b : xI s1 b 1 = nI (n + 1) := by rw [hs1]; simp [xUp, xpT, xpL, xpI, xpR, xpA, xpJ, xpO, xpZ, xInt, xN]
  have f1 : Fr s s1 [w, b] [r, p, q] := by
    rw [hs1]
    exact ⟨rfl, rfl, rfl, rfl, rfl, rfl, fun c hc => xUp_ne _ _ _ (fun e => hc (by simp [e])), fun c hc => xUp_ne _ _ _ (fun e => hc (by simp [e]))⟩
  have t1w : xT s1 w = 11 := W1.1
  have pre : X_Words_append F s w u = if (u &&& 255) = 32 then X_Words_append_43 F s1 w (nI n) else if (u &&& 255) = 10 then X_Words_append_43 F s1 w (nI n) else X_Words_append_44 F s1 w (nI n) 1 := by
    simp [X_Words_append, xGetA, tw, w0, xGetI, tb, hb, xIs, e1, xpT, xpL, xpI, xpR, xpA, xpJ, xpO, xpZ, xInt, xN]
  by_cases hB : isB (by8 u) = true
  · -- a blank
    refine ⟨(xT s1, xL s1, xUp (xI s1) w 4 0, xR s1, xA s1, xJ s1, xO s1, xZ s1), ?_, ?_, by rw [xpA, a1r, hf2, hf], ?_⟩
    · have e43 : X_Words_append_43 F s1 w (nI n) = some (1, xT s1, xL s1, xUp (xI s1) w 4 0, xR s1, xA s1, xJ s1, xO s1, xZ s1) := by
        simp [X_Words_append_43, X_Words_append_44, X_Words_append_63, xPutZ, xPutI, t1w, xpT, xpL, xpI, xpR, xpA, xpJ, xpO, xpZ, xInt, xN]
      rw [pre]
      rcases (isB_by8 u).mp hB with h | h
      · rw [if_pos h, e43]
      · by_cases h9 : (u &&& 255) = 32
        · rw [if_pos h9, e43]
        · rw [if_neg h9, if_pos h, e43]
    · have k1 : wc f2 (n + 1) = wc f n := by simp only [wc]; rw [fn, if_pos hB, cw]
      have k2 : inW f2 (n + 1) = false := by simp only [inW]; rw [fn, hB]; rfl
      refine ⟨W1.fr rfl rfl rfl, ?_, by omega, ?_, ?_, ?_⟩
      · rw [xpI, xUp_ne _ _ _ (Ne.symm hwb)]; exact i1b
      · rw [xpI, xpA, a1r, k1]; simp [xUp, i1w, h3]
      · rw [xpI, xpA, a1r, k2]; simp [xUp]
      · intro i hi
        rw [xpA, a1r] at hi ⊢
        show xA s1 p i = nI (wb f2 (n + 1) i) ∧ xA s1 q i = nI (we f2 (n + 1) i)
        rw [a1p, a1q]
        rw [k1] at hi
        have k3 : wb f2 (n + 1) i = wb f n i := by simp only [wb]; rw [fn, if_pos hB, cb]
        have k4 : we f2 (n + 1) i = we f n i := by simp only [we]; rw [fn, if_pos hB, ce]
        rw [k3, k4]
        exact h5 i hi
    · obtain ⟨g1, g2, g3, g4, g5, g6, g7, g8⟩ := f1
      exact ⟨g1, g2, g3, g4, g5, g6, fun c hc => by rw [xpI, xUp_ne _ _ _ (fun e => hc (by simp [e]))]; exact g7 c hc, g8⟩
  · have hB' : isB (by8 u) = false := by simpa using hB
    have hnb := fun h => hB ((isB_by8 u).mpr h)
    have n1 : ¬ (u &&& 255) = 32 := fun h => hnb (Or.inl h)
    have n2 : ¬ (u &&& 255) = 10 := fun h => hnb (Or.inr h)
    rw [if_neg n1, if_neg n2] at pre
    have k2 : inW f2 (n + 1) = true := by simp only [inW]; rw [fn, hB']; rfl
    cases hI : inW f n with
    | true =>
      -- in a word
      obtain ⟨l1, l2⟩ := hle.1 hI
      obtain ⟨c, hc⟩ : ∃ c, wc f n = c + 1 := ⟨wc f n - 1, by omega⟩
      rw [hI, if_pos rfl] at h4
      have e63 := X_Words_lengthen_eq (F := F) W1 (c := c) (by rw [i1w, h3, hc]) (by omega) (nI n + 1)
      refine ⟨(xT s1, xL s1, xUp (xI s1) w 4 1, xR s1, xUp (xA s1) q c (nI (n + 1)), xJ s1, xO s1, xZ s1), ?_, ?_, ?_, ?_⟩
      · rw [pre]
        have h44 : xI s1 w 4 = 1 := by rw [i1w, h4]
        rw [nI_1] at e63
        simp [X_Words_append_44, X_Words_append_63, xGetI, t1w, h44, xIs, nI_1, e63, xPutZ, xPutI, xpT, xpL, xpI, xpR, xpA, xpJ, xpO, xpZ, xInt, xN]
      · have k1 : wc f2 (n + 1) = c + 1 := by simp only [wc]; rw [fn, hB', ci, hI, cw, hc]; rfl
        have ar : (xUp (xA s1) q c (nI (n + 1))) r = f2 := by rw [xUp_ne _ _ _ hrq]; exact a1r
        refine ⟨W1.fr rfl rfl rfl, ?_, by omega, ?_, ?_, ?_⟩
        · rw [xpI, xUp_ne _ _ _ (Ne.symm hwb)]; exact i1b
        · rw [xpI, xpA, ar, k1]; simp [xUp, i1w, h3, hc]
        · rw [xpI, xpA, ar, k2]; simp [xUp]
        · intro i hi
          rw [xpA, ar] at hi ⊢
          rw [k1] at hi
          show xUp (xA s1) q c (nI (n + 1)) p i = nI (wb f2 (n + 1) i) ∧ xUp (xA s1) q c (nI (n + 1)) q i = nI (we f2 (n + 1) i)
          rw [xUp_ne _ _ _ hpq, a1p]
          have k3 : wb f2 (n + 1) i = wb f n i := by simp only [wb]; rw [fn, hB', ci, hI, cb]; rfl
          refine ⟨by rw [k3]; exact (h5 i (by omega)).1, ?_⟩
          by_cases hi2 : i = c
          · have k4 : we f2 (n + 1) i = n + 1 := by
              show (if isB (f2 n) then we f2 n i else if i + 1 = wc f2 (n + 1) then n + 1 else we f2 n i) = n + 1
              rw [fn, hB', k1, hi2]; simp
            rw [k4]; simp [xUp, hi2]
          · have k4 : we f2 (n + 1) i = we f n i := by
              show (if isB (f2 n) then we f2 n i else if i + 1 = wc f2 (n + 1) then n + 1 else we f2 n i) = _
              have : ¬ (i + 1 = c + 1) := by omega
              rw [fn, hB', k1, if_neg this, ce]; rfl
            rw [k4]
            simp [xUp, hi2, a1q]
            exact (h5 i (by omega)).2
      · rw [xpA, xUp_ne _ _ _ hrq, a1r, hf2, hf]
      · obtain ⟨g1, g2, g3, g4, g5, g6, g7, g8⟩ := f1
        exact ⟨g1, g2, g3, g4, g5, g6, fun d hd => by rw [xpI, xUp_ne _ _ _ (fun e => hd (by simp [e]))]; exact g7 d hd, fun d hd => by rw [xpA, xUp_ne _ _ _ (fun e => hd (by simp [e]))]; exact g8 d hd⟩
    | false =>
      -- a new word
      have l1 := hle.2 hI
      rw [hI] at h4
      obtain ⟨c, hc⟩ : ∃ c, wc f n = c := ⟨_, rfl⟩
      rw [hc] at h3 l1
      have eb := X_Words_begin_eq (F := F) W1 (c := c) (by rw [i1w, h3]) (by omega) (nI n)
      obtain ⟨s2, hs2⟩ : ∃ y : XS, y = (xT s1, xL s1, xUp (xI s1) w 3 (nI (c + 1)), xR s1, xUp (xA s1) p c (nI n), xJ s1, xO s1, xZ s1) := ⟨_, rfl⟩
      rw [← hs2] at eb
      have W2 : WoSh s2 w b r p q := W1.fr (by rw [hs2]) (by rw [hs2]) (by rw [hs2])
      have e63 := X_Words_lengthen_eq (F := F) W2 (c := c) (by rw [hs2]; simp [xUp, xpT, xpL, xpI, xpR, xpA, xpJ, xpO, xpZ, xInt, xN]) (by omega) (nI (n + 1))
      refine ⟨(xT s2, xL s2, xUp (xI s2) w 4 1, xR s2, xUp (xA s2) q c (nI (n + 1)), xJ s2, xO s2, xZ s2), ?_, ?_, ?_, ?_⟩
      · rw [pre]
        have h44 : xI s1 w 4 = 0 := by rw [i1w, h4]; rfl
        have t2w : xT s2 w = 11 := W2.1
        simp [X_Words_append_44, X_Words_append_63, xGetI, t1w, t2w, h44, xIs, eb, nI_1, e63, xPutZ, xPutI, xpT, xpL, xpI, xpR, xpA, xpJ, xpO, xpZ, xInt, xN]
      · have k1 : wc f2 (n + 1) = c + 1 := by simp only [wc]; rw [fn, hB', ci, hI, cw, hc]; rfl
        have a2r : xA s2 r = f2 := by rw [hs2, xpA, xUp_ne _ _ _ hrp]; exact a1r
        have ar : (xUp (xA s2) q c (nI (n + 1))) r = f2 := by rw [xUp_ne _ _ _ hrq]; exact a2r
        refine ⟨W2.fr rfl rfl rfl, ?_, by omega, ?_, ?_, ?_⟩
        · rw [xpI, xUp_ne _ _ _ (Ne.symm hwb), hs2, xpI, xUp_ne _ _ _ (Ne.symm hwb)]; exact i1b
        · rw [xpI, xpA, ar, k1, hs2]; simp [xUp, xpT, xpL, xpI, xpR, xpA, xpJ, xpO, xpZ, xInt, xN]
        · rw [xpI, xpA, ar, k2]; simp [xUp]
        · intro i hi
          rw [xpA, ar] at hi ⊢
          rw [k1] at hi
          show xUp (xA s2) q c (nI (n + 1)) p i = nI (wb f2 (n + 1) i) ∧ xUp (xA s2) q c (nI (n + 1)) q i = nI (we f2 (n + 1) i)
          rw [xUp_ne _ _ _ hpq]
          by_cases hi2 : i = c
          · have k3 : wb f2 (n + 1) i = n := by simp only [wb]; rw [fn, hB', ci, hI, cw, hc, hi2]; simp
            have k4 : we f2 (n + 1) i = n + 1 := by
              show (if isB (f2 n) then we f2 n i else if i + 1 = wc f2 (n + 1) then n + 1 else we f2 n i) = n + 1
              rw [fn, hB', k1, hi2]; simp
            rw [k3, k4, hs2, xpA]
            exact ⟨by simp [xUp, hi2], by simp [xUp, hi2]⟩
          · have k3 : wb f2 (n + 1) i = wb f n i := by simp only [wb]; rw [fn, hB', ci, hI, cw, hc, if_neg hi2, cb]; rfl
            have k4 : we f2 (n + 1) i = we f n i := by
              show (if isB (f2 n) then we f2 n i else if i + 1 = wc f2 (n + 1) then n + 1 else we f2 n i) = _
              have : ¬ (i + 1 = c + 1) := by omega
              rw [fn, hB', k1, if_neg this, ce]; rfl
            rw [k3, k4, hs2, xpA]
            have h9 := h5 i (by omega)
            have e3 : xUp (xA s1) p c (nI n) q = xA s q := by rw [xUp_ne _ _ _ (Ne.symm hpq)]; exact a1q
            exact ⟨by simp [xUp, hi2, a1p]; exact h9.1, by rw [xUp_row]; show (if i = c then nI (n + 1) else xUp (xA s1) p c (nI n) q i) = _; rw [if_neg hi2, e3]; exact h9.2⟩
      · rw [xpA, xUp_ne _ _ _ hrq, hs2, xpA, xUp_ne _ _ _ hrp, a1r, hf2, hf]
      · obtain ⟨g1, g2, g3, g4, g5, g6, g7, g8⟩ := f1
        rw [hs2]
        exact ⟨g1, g2, g3, g4, g5, g6, fun d hd => by rw [xpI, xUp_ne _ _ _ (fun e => hd (by simp [e])), xpI, xUp_ne _ _ _ (fun e => hd (by simp [e]))]; exact g7 d hd, fun d hd => by rw [xpA, xUp_ne _ _ _ (fun e => hd (by simp [e])), xpA, xUp_ne _ _ _ (fun e => hd (by simp [e]))]; exact g8 d hd⟩
end WORDS
