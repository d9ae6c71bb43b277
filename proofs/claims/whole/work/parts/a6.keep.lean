/-! WHAT NEW CELLS LEAVE AS IT WAS -/
theorem rf_lt {r k q : Nat} (h : rf r k = some q) : r < 38 ∧ q < 38 := by
  unfold rf at h
  revert h
  split <;> intro h <;> first | (simp at h; omega) | (cases h)
theorem rfE_q {j k x : Nat} (h : rfE j k = some x) : x < 13 := by
  unfold rfE at h
  revert h
  split <;> intro h <;> first | (simp at h; omega) | (cases h)
section KEEPX
variable {s s2 : XS} {a : Nat → Nat} {m m2 : MS} {n : Nat} {rc : Nat → Nat} {Es : Nat → Ed} {nt : Nat} {v : Nat → Nat} {B : Nat}
theorem Sh.lr (H : Sh s a n rc) {r : Nat} (h : r < 38) : a r < xZ s := H.2.2.2.2.2.2.2.2.2.1 r (Or.inl h)
theorem Sh.le (H : Sh s a n rc) {e j : Nat} (he : e < n) (hj : j < 13 + rc e) : a (eR e j) < xZ s := H.2.2.2.2.2.2.2.2.2.1 _ (Or.inr ⟨e, j, he, hj, rfl⟩)
theorem Sh.old (H : Sh s a n rc) (o : Old (xZ s) s s2) (hz : ∀ r, Dm n rc r → a r < xZ s2) : Sh s2 a n rc := by
  have lr := fun r h => H.lr (r := r) h
  have le := fun e j h1 h2 => H.le (e := e) (j := j) h1 h2
  obtain ⟨h1, h2, h3, h4, h5, h6, h7, h8, h9, h10, h11⟩ := H
  refine ⟨fun r hr => ?_, fun r k q hq => ?_, fun e j he hj => ?_, fun e j k q he hq => ?_, fun e k he hk => ?_, fun e he => ?_, fun e he => ?_, h8, h9, hz, h11⟩
  · rw [(o _ (lr r hr)).1, (o _ (lr r hr)).2.1]; exact h1 r hr
  · rw [(o _ (lr r (rf_lt hq).1)).2.2.2.1]; exact h2 r k q hq
  · rw [(o _ (le e j he hj)).1, (o _ (le e j he hj)).2.1]; exact h3 e j he hj
  · have := rfE_lt hq
    rw [(o _ (le e j he (by omega))).2.2.2.1]; exact h4 e j k q he hq
  · rw [(o _ (le e 12 he (by omega))).2.2.2.2.2.2]; exact h5 e k he hk
  · rw [(o _ (lr 1 (by decide))).2.2.2.2.2.2]; exact h6 e he
  · rw [(o _ (lr 1 (by decide))).2.2.2.2.2.2]; exact h7 e he
theorem CE.to {f f2 : Nat → Nat} {E : Ed} (h : CE s f E) (hI : ∀ j, j < 13 + E.1 4 → xI s2 (f2 j) = xI s (f j)) (hA : ∀ j, j < 13 → xA s2 (f2 j) = xA s (f j)) : CE s2 f2 E := by
  obtain ⟨h1, h2, h3, h4⟩ := h
  unfold CE
  rw [hI 0 (by omega), hI 6 (by omega), hI 9 (by omega), hA 7 (by omega), hA 8 (by omega), hA 10 (by omega), hA 11 (by omega)]
  refine ⟨h1, h2, h3, fun k hk => ?_⟩
  rw [hI (13 + k) (by omega)]
  exact h4 k hk
theorem Inv.old (I : Inv s a m n rc Es nt v B) (o : Old (xZ s) s s2) (hz : ∀ r, Dm n rc r → a r < xZ s2) : Inv s2 a m n rc Es nt v B := by
  obtain ⟨H, h1, h2, h3, h4, h5, h6, h7⟩ := I
  have oA : ∀ r, r < 38 → xA s2 (a r) = xA s (a r) := fun r hr => (o _ (H.lr hr)).2.2.2.2.1
  have oIn : ∀ r, r < 38 → xI s2 (a r) = xI s (a r) := fun r hr => (o _ (H.lr hr)).2.2.1
  have oJ : ∀ r, r < 38 → xJ s2 (a r) = xJ s (a r) := fun r hr => (o _ (H.lr hr)).2.2.2.2.2.1
  refine ⟨H.old o hz, ?_, ?_, ?_, ?_, ⟨⟨by rw [oIn 0 (by decide)]; exact h5.1.1, h5.1.2⟩, fun e he => ?_⟩, ?_, fun e he => ?_⟩
  · obtain ⟨t1, t2, t3, t4, t5⟩ := h1
    refine ⟨t1.old ⟨H.lr (by decide), H.lr (by decide), H.lr (by decide), H.lr (by decide), H.lr (by decide)⟩ o, t2, ?_, ?_, ?_⟩
    · rw [oA 23 (by decide)]; exact t3
    · rw [oA 23 (by decide)]; exact t4
    · unfold SimD
      rw [oIn 26 (by decide), oIn 27 (by decide), oIn 30 (by decide)]
      exact t5
  · unfold SimF
    rw [oJ 3 (by decide), oA 4 (by decide)]
    exact h2
  · unfold SimH
    rw [oJ 20 (by decide)]
    exact h3
  · unfold SimW
    rw [oIn 17 (by decide), oA 18 (by decide)]
    exact h4
  · obtain ⟨q1, q2, q3, q4⟩ := h5.2 e he
    exact ⟨q1.to (fun j hj => (o _ (H.le he (by omega))).2.2.1) (fun j hj => (o _ (H.le he (by omega))).2.2.2.2.1), q2, q3, q4⟩
  · unfold SimL FiAt
    rw [oIn 7 (by decide), oA 8 (by decide), oA 9 (by decide), oA 10 (by decide), oA 11 (by decide)]
    exact h6
  · obtain ⟨q1, q2, q3, q4⟩ := h7 e he
    have e3 : xA s2 (a (eR e 3)) = xA s (a (eR e 3)) := (o _ (H.le he (by omega))).2.2.2.2.1
    refine ⟨q1.old ⟨H.le he (by omega), H.le he (by omega), H.le he (by omega), H.le he (by omega), H.le he (by omega)⟩ o, ?_, ?_, ?_⟩
    · simp only [e3]; exact q2
    · simp only [e3]; exact q3
    · simp only [e3]; exact q4
/-- the reference's earlier editions -/
theorem NE.frB {e : Nat} {E : Ed} (h : NE m e E) (w : WE E) (he : e < n) (f : FrB n m m2) : NE m2 e E := by
  obtain ⟨w0, w2, w3, w4, w5, w6, w7⟩ := w
  obtain ⟨⟨h1, h2, h3⟩, h4, h5, h6⟩ := h
  have g := f.2
  refine ⟨⟨by rw [f.1.2.1 4 (by decide)]; exact h1, by rw [g 13 e (by simp [lim2, lim]; omega)]; exact h2, by rw [g 10 e (by simp [lim2, lim]; omega)]; exact h3⟩, fun i hi => ?_, fun t ht => ?_, fun k hk => ?_⟩
  · rw [g 19 (400 * e + i) (by simp [lim2, lim]; omega), g 20 (400 * e + i) (by simp [lim2, lim]; omega)]
    exact h4 i hi
  · obtain ⟨u1, u2⟩ := h5 t ht
    have := (w6 t ht).1
    refine ⟨by rw [g 11 (8 * e + t) (by simp [lim2, lim]; omega)]; exact u1, fun k hk => ?_⟩
    rw [g 12 (80 * e + 10 * t + k) (by simp [lim2, lim]; omega)]
    exact u2 k hk
  · rw [g 17 (12 * e + k) (by simp [lim2, lim]; omega), g 14 (12 * e + k) (by simp [lim2, lim]; omega), g 18 (12 * e + k) (by simp [lim2, lim]; omega), g 15 (12 * e + k) (by simp [lim2, lim]; omega), g 16 (12 * e + k) (by simp [lim2, lim]; omega)]
    exact h6 k hk
theorem WdE.frB {e : Nat} {E : Ed} {f : Nat → Nat} (h : WdE s f m e E) (he : e < n) (g : FrB n m m2) : WdE s f m2 e E := by
  obtain ⟨q1, q2, q3, q4⟩ := h
  have h8 := q1.2.2.1
  have h4 := wc_400 (g := xA s (f 3)) h8
  refine ⟨q1, fun i hi => ?_, fun i hi => ?_, q4⟩
  · rw [g.2 5 (800 * e + i) (by simp [lim2]; omega)]; exact q2 i hi
  · rw [g.2 6 (400 * e + i) (by simp [lim2]; omega), g.2 7 (400 * e + i) (by simp [lim2]; omega)]; exact q3 i hi
theorem SimL.frB (h : SimL s a m n Es) {k : Nat} (f : FrB k m m2) : SimL s a m2 n Es := by
  unfold SimL
  rw [f.1.1 29 (by decide), f.1.2.1 30 (by decide), f.1.2.1 31 (by decide), f.1.2.1 32 (by decide)]
  exact h
/-! what the reading leaves -/
/-- the reader's begin and the reading -/
def Wk (z rd yy : Nat) (s s2 : XS) : Prop := (∀ c, c < yy → (xT s2 c = xT s c ∧ xL s2 c = xL s c ∧ xJ s2 c = xJ s c ∧ (c ≠ rd → xR s2 c = xR s c) ∧ (c ≠ z + 12 → xO s2 c = xO s c)) ∧ ((c ≠ z ∧ (c < z + 6 ∨ z + 12 < c) ∧ (c < rd ∨ rd + 3 < c)) → xI s2 c = xI s c ∧ xA s2 c = xA s c)) ∧ xR s2 rd 0 = xR s rd 0 ∧ xZ s ≤ xZ s2
theorem Lay.out (L : Lay a) {c : Nat} (hc : ∀ r, 26 ≤ r → r < 38 → c ≠ a r) : c ≠ a 26 ∧ (c < a 26 + 6 ∨ a 26 + 12 < c) ∧ (c < a 34 ∨ a 34 + 3 < c) := by
  refine ⟨hc 26 (by decide) (by decide), ?_, ?_⟩
  · apply Classical.byContradiction
    intro q
    have h1 : c - (a 26 + 6) < 7 := by omega
    have h2 := L.2.1 (c - (a 26 + 6)) h1
    exact hc (27 + (c - (a 26 + 6))) (by omega) (by omega) (by rw [h2]; omega)
  · apply Classical.byContradiction
    intro q
    by_cases e : c = a 34
    · exact hc 34 (by decide) (by decide) e
    · have h1 : c - (a 34 + 1) < 3 := by omega
      have h2 := L.2.2 (c - (a 34 + 1)) h1
      exact hc (35 + (c - (a 34 + 1))) (by omega) (by omega) (by rw [h2]; omega)
theorem Lay.outR (H : Sh s a n rc) (L : Lay a) {r : Nat} (hr : r < 26) : a r ≠ a 26 ∧ (a r < a 26 + 6 ∨ a 26 + 12 < a r) ∧ (a r < a 34 ∨ a 34 + 3 < a r) := L.out (fun _ _ h2 => H.ne (by omega) h2 (by omega))
theorem Lay.outE (H : Sh s a n rc) (L : Lay a) {e j : Nat} (he : e < n) (hj : j < 13 + rc e) : a (eR e j) ≠ a 26 ∧ (a (eR e j) < a 26 + 6 ∨ a 26 + 12 < a (eR e j)) ∧ (a (eR e j) < a 34 ∨ a 34 + 3 < a (eR e j)) := L.out (fun _ _ h2 => H.neE he hj h2)
theorem Lay.l33 (L : Lay a) : a 33 = a 26 + 12 := L.2.1 6 (by decide)
theorem Sh.wk (H : Sh s a n rc) (L : Lay a) (o : Wk (a 26) (a 34) (xZ s) s s2) : Sh s2 a n rc := by
  have lr := fun r h => H.lr (r := r) h
  have le := fun e j h1 h2 => H.le (e := e) (j := j) h1 h2
  have l33 := L.l33
  obtain ⟨o, oR, oZ⟩ := o
  have hz : ∀ r, Dm n rc r → a r < xZ s2 := fun r hr => Nat.lt_of_lt_of_le (H.2.2.2.2.2.2.2.2.2.1 r hr) oZ
  obtain ⟨h1, h2, h3, h4, h5, h6, h7, h8, h9, h10, h11⟩ := id H
  refine ⟨fun r hr => ?_, fun r k q hq => ?_, fun e j he hj => ?_, fun e j k q he hq => ?_, fun e k he hk => ?_, fun e he => ?_, fun e he => ?_, h8, h9, hz, h11⟩
  · rw [(o _ (lr r hr)).1.1, (o _ (lr r hr)).1.2.1]; exact h1 r hr
  · by_cases c : r = 34
    · subst c
      have hk : k = 0 := by
        unfold rf at hq
        revert hq
        split <;> intro hq <;> first | (cases hq; done) | omega
      subst hk
      rw [oR]; exact h2 34 0 q hq
    · rw [(o _ (lr r (rf_lt hq).1)).1.2.2.2.1 (H.ne (rf_lt hq).1 (by decide) c)]; exact h2 r k q hq
  · rw [(o _ (le e j he hj)).1.1, (o _ (le e j he hj)).1.2.1]; exact h3 e j he hj
  · have := rfE_lt hq
    rw [(o _ (le e j he (by omega))).1.2.2.2.1 (H.neE he (by omega) (by decide))]; exact h4 e j k q he hq
  · rw [(o _ (le e 12 he (by omega))).1.2.2.2.2 (by rw [← l33]; exact H.neE he (by omega) (by decide))]; exact h5 e k he hk
  · rw [(o _ (lr 1 (by decide))).1.2.2.2.2 (by rw [← l33]; exact H.ne)]; exact h6 e he
  · rw [(o _ (lr 1 (by decide))).1.2.2.2.2 (by rw [← l33]; exact H.ne)]; exact h7 e he
/-- all but the draft -/
def InvR (s : XS) (a : Nat → Nat) (m : MS) (n : Nat) (rc : Nat → Nat) (Es : Nat → Ed) (v : Nat → Nat) (B : Nat) : Prop :=
  SimF s a m ∧ SimH s a m v B ∧ SimW s a m ∧ EB s a m n Es rc ∧ SimL s a m n Es ∧ ∀ e, e < n → WdE s (fun j => a (eR e j)) m e (Es e)
theorem Inv.wk (I : Inv s a m n rc Es nt v B) (o : Wk (a 26) (a 34) (xZ s) s s2) : InvR s2 a m n rc Es v B ∧ WoAt s2 (a 21) (a 22) (a 23) (a 24) (a 25) nt ∧ xA s2 (a 23) = xA s (a 23) := by
  obtain ⟨H, h1, h2, h3, h4, h5, h6, h7⟩ := I
  obtain ⟨t1, t2, t3, t4, t5⟩ := h1
  have L := t5.1
  obtain ⟨o, oR, oZ⟩ := o
  have oA : ∀ r, r < 26 → xA s2 (a r) = xA s (a r) := fun r hr => ((o _ (H.lr (by omega))).2 (L.outR H hr)).2
  have oIn : ∀ r, r < 26 → xI s2 (a r) = xI s (a r) := fun r hr => ((o _ (H.lr (by omega))).2 (L.outR H hr)).1
  have oJ : ∀ r, r < 26 → xJ s2 (a r) = xJ s (a r) := fun r hr => (o _ (H.lr (by omega))).1.2.2.1
  have oT : ∀ r, r < 26 → xT s2 (a r) = xT s (a r) := fun r hr => (o _ (H.lr (by omega))).1.1
  have oL : ∀ r, r < 26 → xL s2 (a r) = xL s (a r) := fun r hr => (o _ (H.lr (by omega))).1.2.1
  have oRr : ∀ r, r < 26 → xR s2 (a r) = xR s (a r) := fun r hr => (o _ (H.lr (by omega))).1.2.2.2.1 (H.ne (by omega) (by decide) (by omega))
  have eA : ∀ e j, e < n → j < 13 + rc e → xA s2 (a (eR e j)) = xA s (a (eR e j)) := fun e j he hj => ((o _ (H.le he hj)).2 (L.outE H he hj)).2
  have eI : ∀ e j, e < n → j < 13 + rc e → xI s2 (a (eR e j)) = xI s (a (eR e j)) := fun e j he hj => ((o _ (H.le he hj)).2 (L.outE H he hj)).1
  have eT : ∀ e j, e < n → j < 13 + rc e → xT s2 (a (eR e j)) = xT s (a (eR e j)) := fun e j he hj => (o _ (H.le he hj)).1.1
  have eL : ∀ e j, e < n → j < 13 + rc e → xL s2 (a (eR e j)) = xL s (a (eR e j)) := fun e j he hj => (o _ (H.le he hj)).1.2.1
  have eRr : ∀ e j, e < n → j < 13 + rc e → xR s2 (a (eR e j)) = xR s (a (eR e j)) := fun e j he hj => (o _ (H.le he hj)).1.2.2.2.1 (H.neE he hj (by decide))
  refine ⟨⟨?_, ?_, ?_, ⟨⟨by rw [oIn 0 (by decide)]; exact h5.1.1, h5.1.2⟩, fun e he => ?_⟩, ?_, fun e he => ?_⟩, ?_, oA 23 (by decide)⟩
  · unfold SimF
    rw [oJ 3 (by decide), oA 4 (by decide)]
    exact h2
  · unfold SimH
    rw [oJ 20 (by decide)]
    exact h3
  · unfold SimW
    rw [oIn 17 (by decide), oA 18 (by decide)]
    exact h4
  · obtain ⟨q1, q2, q3, q4⟩ := h5.2 e he
    exact ⟨q1.to (fun j hj => eI e j he (by omega)) (fun j hj => eA e j he (by omega)), q2, q3, q4⟩
  · unfold SimL FiAt
    rw [oIn 7 (by decide), oA 8 (by decide), oA 9 (by decide), oA 10 (by decide), oA 11 (by decide)]
    exact h6
  · have h := h7 e he
    unfold WdE WoAt WoSh at h ⊢
    simp only at h ⊢
    rw [eT e 1 he (by omega), eT e 2 he (by omega), eT e 3 he (by omega), eT e 4 he (by omega), eT e 5 he (by omega), eL e 3 he (by omega), eL e 4 he (by omega), eL e 5 he (by omega), eRr e 1 he (by omega), eRr e 2 he (by omega), eI e 1 he (by omega), eI e 2 he (by omega), eA e 3 he (by omega), eA e 4 he (by omega), eA e 5 he (by omega)]
    exact h
  · unfold WoAt WoSh at t1 ⊢
    rw [oT 21 (by decide), oT 22 (by decide), oT 23 (by decide), oT 24 (by decide), oT 25 (by decide), oL 23 (by decide), oL 24 (by decide), oL 25 (by decide), oRr 21 (by decide), oRr 22 (by decide), oIn 21 (by decide), oIn 22 (by decide), oA 23 (by decide), oA 24 (by decide), oA 25 (by decide)]
    exact t1
/-- the draft is cleared -/
theorem clear_draft {F : Nat} (H : Sh s a n rc) : ∃ s2, X_Edition_clear F s (a 26) = some s2 ∧ FrR a s s2 [21, 22, 26, 27, 30] [] [] ∧ xI s2 (a 22) 1 = 0 ∧ xI s2 (a 21) 3 = 0 ∧ xI s2 (a 21) 4 = 0 ∧ xI s2 (a 26) 4 = 0 ∧ xI s2 (a 27) 2 = 0 ∧ xI s2 (a 30) 2 = 0 := by
  have t21 : xT s (a 21) = 11 := H.t 21
  have r21_0 : xR s (a 21) 0 = some (a 22) := H.r 21 0
  have r21_1 : xR s (a 21) 1 = some (a 24) := H.r 21 1
  have r21_2 : xR s (a 21) 2 = some (a 25) := H.r 21 2
  have t22 : xT s (a 22) = 1 := H.t 22
  have r22_0 : xR s (a 22) 0 = some (a 23) := H.r 22 0
  have t26 : xT s (a 26) = 2 := H.t 26
  have r26_0 : xR s (a 26) 0 = some (a 21) := H.r 26 0
  have r26_1 : xR s (a 26) 1 = some (a 27) := H.r 26 1
  have r26_2 : xR s (a 26) 2 = some (a 30) := H.r 26 2
  have r26_3 : xR s (a 26) 3 = some (a 33) := H.r 26 3
  have t27 : xT s (a 27) = 8 := H.t 27
  have r27_0 : xR s (a 27) 0 = some (a 28) := H.r 27 0
  have r27_1 : xR s (a 27) 1 = some (a 29) := H.r 27 1
  have t30 : xT s (a 30) = 9 := H.t 30
  have r30_0 : xR s (a 30) 0 = some (a 31) := H.r 30 0
  have r30_1 : xR s (a 30) 1 = some (a 32) := H.r 30 1
  have n1 : a 22 ≠ a 21 := H.ne
  have n2 : a 22 ≠ a 26 := H.ne
  have n3 : a 22 ≠ a 27 := H.ne
  have n4 : a 22 ≠ a 30 := H.ne
  have n5 : a 21 ≠ a 26 := H.ne
  have n6 : a 21 ≠ a 27 := H.ne
  have n7 : a 21 ≠ a 30 := H.ne
  have n8 : a 27 ≠ a 26 := H.ne
  have n9 : a 27 ≠ a 30 := H.ne
  have n10 : a 30 ≠ a 26 := H.ne
  refine ⟨(xT s, xL s, xUp (xUp (xUp (xUp (xUp (xUp (xI s) (a 22) 1 0) (a 21) 3 0) (a 21) 4 0) (a 27) 2 0) (a 30) 2 0) (a 26) 4 0, xR s, xA s, xJ s, xO s, xZ s), ?_, ⟨rfl, rfl, rfl, rfl, rfl, fun c hc => ?_, fun _ _ => rfl, fun _ _ => rfl⟩, ?_, ?_, ?_, ?_, ?_, ?_⟩
  · simp [X_Edition_clear, X_Words_clear, X_Bytes_clear, X_Steps_clear, X_Tables_clear, xGetA, t26, r26_0, r26_1, r26_2, t21, r21_0, xIs, t22, t27, t30, xPutI, xpT, xpL, xpI, xpR, xpA, xpJ, xpO, xpZ, xInt, xN]
  · simp at hc
    rw [xpI, xUp_ne _ _ _ hc.2.2.1, xUp_ne _ _ _ hc.2.2.2.2, xUp_ne _ _ _ hc.2.2.2.1, xUp_ne _ _ _ hc.1, xUp_ne _ _ _ hc.1, xUp_ne _ _ _ hc.2.1]
  · simp [xUp, n1, n2, n3, n4, xpT, xpL, xpI, xpR, xpA, xpJ, xpO, xpZ, xInt, xN]
  · simp [xUp, n5, n6, n7, xpT, xpL, xpI, xpR, xpA, xpJ, xpO, xpZ, xInt, xN]
  · simp [xUp, n5, n6, n7, xpT, xpL, xpI, xpR, xpA, xpJ, xpO, xpZ, xInt, xN]
  · simp [xUp, xpT, xpL, xpI, xpR, xpA, xpJ, xpO, xpZ, xInt, xN]
  · simp [xUp, n8, n9, xpT, xpL, xpI, xpR, xpA, xpJ, xpO, xpZ, xInt, xN]
  · simp [xUp, n10, xpT, xpL, xpI, xpR, xpA, xpJ, xpO, xpZ, xInt, xN]
theorem cleared {F : Nat} (H : Sh s a n rc) (L : Lay a) (I : InvR s a m n rc Es v B) (W : WoSh s (a 21) (a 22) (a 23) (a 24) (a 25)) (f : FrB n m m2) (h2 : m2.1 2 = 0) : ∃ s2, X_Edition_clear F s (a 26) = some s2 ∧ Inv s2 a m2 n rc Es 0 v B := by
  obtain ⟨h2', h3, h4, h5, h6, h7⟩ := id I
  obtain ⟨s2, e2, g, c1, c2, c3, c4, c5, c6⟩ := clear_draft (F := F) H
  have gm := FrM.refl m [] [] []
  have H2 := H.frR g
  have W2 : WoAt s2 (a 21) (a 22) (a 23) (a 24) (a 25) 0 := by
    refine ⟨?_, by rw [c1]; rfl, by omega, by rw [c2]; rfl, by rw [c3]; rfl, fun i hi => by simp [wc] at hi⟩
    unfold WoSh
    rw [g.1, g.2.1, g.2.2.1]
    exact W
  refine ⟨s2, e2, ?_⟩
  have T3 : SimT s2 a m2 0 := ⟨W2, by rw [h2]; rfl, fun i hi => by omega, fun i hi => by omega, L, c4, c5, c6⟩
  refine ⟨H2, T3, ?_, ?_, ?_, ?_, ?_, ?_⟩
  · have := h2'.fr H g gm (by decide)
    unfold SimF at this ⊢
    rw [f.1.2.2 27 (by decide), f.1.2.1 28 (by decide)]
    exact this
  · have := h3.fr H g gm (by decide)
    unfold SimH at this ⊢
    rw [f.1.2.2 38 (by decide)]
    exact this
  · have := h4.fr H g gm (by decide)
    unfold SimW at this ⊢
    rw [f.1.1 37 (by decide), f.1.2.1 36 (by decide)]
    exact this
  · have h5' := h5.fr H g gm (by decide)
    refine ⟨⟨h5'.1.1, by rw [f.1.1 3 (by decide)]; exact h5'.1.2⟩, fun e he => ?_⟩
    obtain ⟨q1, q2, q3, q4⟩ := h5'.2 e he
    exact ⟨q1, q2.frB q3 he f, q3, q4⟩
  · exact (h6.fr H g gm (by decide)).frB f
  · exact fun e he => ((h7 e he).fr H he g gm (by decide)).frB he f
end KEEPX
