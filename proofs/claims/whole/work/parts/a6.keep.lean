/-! WHAT NEW CELLS LEAVE AS IT WAS -/
theorem rf_cases {r k q : Nat} (h : rf r k = some q) : (r = 0 ∧ k = 2 ∧ q = 21) ∨ (r = 21 ∧ k = 0 ∧ q = 22) ∨ (r = 21 ∧ k = 1 ∧ q = 24) ∨ (r = 21 ∧ k = 2 ∧ q = 25) ∨ (r = 22 ∧ k = 0 ∧ q = 23) ∨ (r < 21 ∧ q < 21 ∧ ¬ (r = 0 ∧ k = 2)) := by
  unfold rf at h
  revert h
  split <;> intro h <;> first | (simp at h; omega) | (cases h)
theorem rf_lt {r k q : Nat} (h : rf r k = some q) : r < 26 := by
  have := rf_cases h
  omega
theorem rfE_q {j k x : Nat} (h : rfE j k = some x) : x < 13 := by
  unfold rfE at h
  revert h
  split <;> intro h <;> first | (simp at h; omega) | (cases h)
section KEEPX
variable {s s2 : XS} {a : Nat → Nat} {m m2 : MS} {n : Nat} {rc : Nat → Nat} {Es : Nat → Ed} {nt : Nat} {v : Nat → Nat} {B : Nat}
theorem Sh.lr (H : Sh s a n rc) {r : Nat} (h : r < 26) : a r < xZ s := H.2.2.2.2.2.2.2.2.2.1 r (Or.inl h)
theorem Sh.le (H : Sh s a n rc) {e j : Nat} (he : e < n) (hj : j < 13 + rc e) : a (eR e j) < xZ s := H.2.2.2.2.2.2.2.2.2.1 _ (Or.inr ⟨e, j, he, hj, rfl⟩)
theorem Sh.old (H : Sh s a n rc) (o : Old (xZ s) s s2) (hz : ∀ r, Dm n rc r → a r < xZ s2) : Sh s2 a n rc := by
  have lr := fun r h => H.lr (r := r) h
  have le := fun e j h1 h2 => H.le (e := e) (j := j) h1 h2
  obtain ⟨h1, h2, h3, h4, h5, h6, h7, h8, h9, h10, h11⟩ := H
  refine ⟨fun r hr => ?_, fun r k q hq => ?_, fun e j he hj => ?_, fun e j k q he hq => ?_, fun e k he hk => ?_, fun e he => ?_, fun e he => ?_, h8, h9, hz, h11⟩
  · rw [(o _ (lr r hr)).1, (o _ (lr r hr)).2.1]; exact h1 r hr
  · rw [(o _ (lr r (rf_lt hq))).2.2.2.1]; exact h2 r k q hq
  · rw [(o _ (le e j he hj)).1, (o _ (le e j he hj)).2.1]; exact h3 e j he hj
  · have := rfE_lt hq
    rw [(o _ (le e j he (by omega))).2.2.2.1]; exact h4 e j k q he hq
  · rw [(o _ (le e 12 he (by omega))).2.2.2.2.2.2]; exact h5 e k he hk
  · rw [(o _ (lr 1 (by decide))).2.2.2.2.2.2]; exact h6 e he
  · rw [(o _ (lr 1 (by decide))).2.2.2.2.2.2]; exact h7 e he
theorem Sh.wz (H : Sh s a n rc) (o : Old (xZ s) s s2) (hw : ∀ c, xT s2 c ≠ 0 → c < xZ s2) : ∀ r, Dm n rc r → a r < xZ s2 := by
  intro r hr
  apply hw
  have hl := H.2.2.2.2.2.2.2.2.2.1 r hr
  rw [(o _ hl).1]
  rcases hr with h | ⟨e, j, he, hj, rfl⟩
  · rw [(H.1 r h).1]
    have : ∀ r, r < 26 → tg r ≠ 0 := by decide
    exact this r h
  · rw [(H.2.2.1 e j he hj).1]
    unfold tgE
    repeat' split
    all_goals decide
theorem wclear {F w b r p q : Nat} (W : WoSh s w b r p q) : ∃ s2, X_Words_clear F s w = some s2 ∧ xT s2 = xT s ∧ xZ s2 = xZ s := by
  obtain ⟨w1, w2, w3, w4, w5, -⟩ := W
  refine ⟨(xT s, xL s, xUp (xUp (xUp (xI s) b 1 0) w 3 0) w 4 0, xR s, xA s, xJ s, xO s, xZ s), ?_, rfl, rfl⟩
  simp [X_Words_clear, X_Bytes_clear, xGetA, w1, w2, xIs, w5, xPutI, xpT, xpL, xpI, xpR, xpA, xpJ, xpO, xpZ, xInt, xN]
theorem CE.to {f f2 : Nat → Nat} {E : Ed} (h : CE s f E) (hI : ∀ j, j < 13 + E.1 4 → xI s2 (f2 j) = xI s (f j)) (hA : ∀ j, j < 13 → xA s2 (f2 j) = xA s (f j)) : CE s2 f2 E := by
  obtain ⟨h1, h2, h3, h4⟩ := h
  unfold CE
  rw [hI 0 (by omega), hI 6 (by omega), hI 9 (by omega), hA 7 (by omega), hA 8 (by omega), hA 10 (by omega), hA 11 (by omega)]
  refine ⟨h1, h2, h3, fun k hk => ?_⟩
  rw [hI (13 + k) (by omega)]
  exact h4 k hk
theorem Inv.old (I : Inv s a m n rc Es nt v B) (o : Old (xZ s) s s2) (hz : ∀ r, Dm n rc r → a r < xZ s2) : Inv s2 a m n rc Es nt v B := by
  obtain ⟨H, h1, h2, h3, h4, h5, h6, h7⟩ := I
  have oA : ∀ r, r < 26 → xA s2 (a r) = xA s (a r) := fun r hr => (o _ (H.lr hr)).2.2.2.2.1
  have oIn : ∀ r, r < 26 → xI s2 (a r) = xI s (a r) := fun r hr => (o _ (H.lr hr)).2.2.1
  have oJ : ∀ r, r < 26 → xJ s2 (a r) = xJ s (a r) := fun r hr => (o _ (H.lr hr)).2.2.2.2.2.1
  refine ⟨H.old o hz, ?_, ?_, ?_, ?_, ⟨⟨by rw [oIn 0 (by decide)]; exact h5.1.1, h5.1.2⟩, fun e he => ?_⟩, ?_, fun e he => ?_⟩
  · obtain ⟨t1, t2, t3, t4⟩ := h1
    refine ⟨t1.old ⟨H.lr (by decide), H.lr (by decide), H.lr (by decide), H.lr (by decide), H.lr (by decide)⟩ o, t2, ?_, ?_⟩
    · rw [oA 23 (by decide)]; exact t3
    · rw [oA 23 (by decide)]; exact t4
  · unfold SimF
    rw [oJ 3 (by decide), oA 4 (by decide)]
    exact h2
  · unfold SimH
    rw [oJ 20 (by decide)]
    exact h3
  · unfold SimW
    rw [oIn 17 (by decide), oA 18 (by decide)]
    exact h4
  · obtain ⟨q1, q2, q3, q4⟩ := h5.2 e he
    exact ⟨q1.to (fun j hj => (o _ (H.le he (by omega))).2.2.1) (fun j hj => (o _ (H.le he (by omega))).2.2.2.2.1), q2, q3, q4⟩
  · unfold SimL FiAt
    rw [oIn 7 (by decide), oA 8 (by decide), oA 9 (by decide), oA 10 (by decide), oA 11 (by decide)]
    exact h6
  · obtain ⟨q1, q2, q3, q4⟩ := h7 e he
    have e3 : xA s2 (a (eR e 3)) = xA s (a (eR e 3)) := (o _ (H.le he (by omega))).2.2.2.2.1
    refine ⟨q1.old ⟨H.le he (by omega), H.le he (by omega), H.le he (by omega), H.le he (by omega), H.le he (by omega)⟩ o, ?_, ?_, ?_⟩
    · simp only [e3]; exact q2
    · simp only [e3]; exact q3
    · simp only [e3]; exact q4
/-- the reference's earlier editions -/
theorem NE.frB {e : Nat} {E : Ed} (h : NE m e E) (w : WE E) (he : e < n) (f : FrB n m m2) : NE m2 e E := by
  obtain ⟨w0, w2, w3, w4, w5, w6, w7⟩ := w
  obtain ⟨⟨h1, h2, h3⟩, h4, h5, h6⟩ := h
  have g := f.2
  refine ⟨⟨by rw [f.1.2.1 4 (by decide)]; exact h1, by rw [g 13 e (by simp [lim2, lim]; omega)]; exact h2, by rw [g 10 e (by simp [lim2, lim]; omega)]; exact h3⟩, fun i hi => ?_, fun t ht => ?_, fun k hk => ?_⟩
  · rw [g 19 (400 * e + i) (by simp [lim2, lim]; omega), g 20 (400 * e + i) (by simp [lim2, lim]; omega)]
    exact h4 i hi
  · obtain ⟨u1, u2⟩ := h5 t ht
    have := (w6 t ht).1
    refine ⟨by rw [g 11 (8 * e + t) (by simp [lim2, lim]; omega)]; exact u1, fun k hk => ?_⟩
    rw [g 12 (80 * e + 10 * t + k) (by simp [lim2, lim]; omega)]
    exact u2 k hk
  · rw [g 17 (12 * e + k) (by simp [lim2, lim]; omega), g 14 (12 * e + k) (by simp [lim2, lim]; omega), g 18 (12 * e + k) (by simp [lim2, lim]; omega), g 15 (12 * e + k) (by simp [lim2, lim]; omega), g 16 (12 * e + k) (by simp [lim2, lim]; omega)]
    exact h6 k hk
theorem WdE.frB {e : Nat} {E : Ed} {f : Nat → Nat} (h : WdE s f m e E) (he : e < n) (g : FrB n m m2) : WdE s f m2 e E := by
  obtain ⟨q1, q2, q3, q4⟩ := h
  have h8 := q1.2.2.1
  have h4 := wc_400 (g := xA s (f 3)) h8
  refine ⟨q1, fun i hi => ?_, fun i hi => ?_, q4⟩
  · rw [g.2 5 (800 * e + i) (by simp [lim2]; omega)]; exact q2 i hi
  · rw [g.2 6 (400 * e + i) (by simp [lim2]; omega), g.2 7 (400 * e + i) (by simp [lim2]; omega)]; exact q3 i hi
theorem SimL.frB (h : SimL s a m n Es) {k : Nat} (f : FrB k m m2) : SimL s a m2 n Es := by
  unfold SimL
  rw [f.1.1 29 (by decide), f.1.2.1 30 (by decide), f.1.2.1 31 (by decide), f.1.2.1 32 (by decide)]
  exact h
theorem Inv.mB (I : Inv s a m n rc Es nt v B) (f : FrB n m m2) {nt2 : Nat} (T : SimT s a m2 nt2) : Inv s a m2 n rc Es nt2 v B := by
  obtain ⟨H, h1, h2, h3, h4, h5, h6, h7⟩ := I
  refine ⟨H, T, ?_, ?_, ?_, ⟨⟨h5.1.1, by rw [f.1.1 3 (by decide)]; exact h5.1.2⟩, fun e he => ?_⟩, h6.frB f, fun e he => (h7 e he).frB he f⟩
  · unfold SimF
    rw [f.1.2.2 27 (by decide), f.1.2.1 28 (by decide)]
    exact h2
  · unfold SimH
    rw [f.1.2.2 38 (by decide)]
    exact h3
  · unfold SimW
    rw [f.1.1 37 (by decide), f.1.2.1 36 (by decide)]
    exact h4
  · obtain ⟨q1, q2, q3, q4⟩ := h5.2 e he
    exact ⟨q1, q2.frB q3 he f, q3, q4⟩
/-- the tape is cleared -/
theorem clear_tape {F : Nat} (H : Sh s a n rc) : ∃ s2, X_Words_clear F s (a 21) = some s2 ∧ FrR a s s2 [21, 22] [] [] ∧ xI s2 (a 22) 1 = 0 ∧ xI s2 (a 21) 3 = 0 ∧ xI s2 (a 21) 4 = 0 := by
  have t21 : xT s (a 21) = 11 := H.t 21
  have r21_0 : xR s (a 21) 0 = some (a 22) := H.r 21 0
  have r21_1 : xR s (a 21) 1 = some (a 24) := H.r 21 1
  have r21_2 : xR s (a 21) 2 = some (a 25) := H.r 21 2
  have t22 : xT s (a 22) = 1 := H.t 22
  have r22_0 : xR s (a 22) 0 = some (a 23) := H.r 22 0
  have n1 : a 22 ≠ a 21 := H.ne
  refine ⟨(xT s, xL s, xUp (xUp (xUp (xI s) (a 22) 1 0) (a 21) 3 0) (a 21) 4 0, xR s, xA s, xJ s, xO s, xZ s), ?_, ⟨rfl, rfl, rfl, rfl, rfl, fun c hc => ?_, fun _ _ => rfl, fun _ _ => rfl⟩, ?_, ?_, ?_⟩
  · simp [X_Words_clear, X_Bytes_clear, xGetA, t21, r21_0, xIs, t22, xPutI, xpT, xpL, xpI, xpR, xpA, xpJ, xpO, xpZ, xInt, xN]
  · simp at hc
    rw [xpI, xUp_ne _ _ _ hc.1, xUp_ne _ _ _ hc.1, xUp_ne _ _ _ hc.2]
  · simp [xUp, n1, xpT, xpL, xpI, xpR, xpA, xpJ, xpO, xpZ, xInt, xN]
  · simp [xUp, xpT, xpL, xpI, xpR, xpA, xpJ, xpO, xpZ, xInt, xN]
  · simp [xUp, xpT, xpL, xpI, xpR, xpA, xpJ, xpO, xpZ, xInt, xN]
theorem cleared {F : Nat} (I : Inv s a m n rc Es nt v B) (f : FrB n m m2) (h2 : m2.1 2 = 0) : ∃ s2, X_Words_clear F s (a 21) = some s2 ∧ Inv s2 a m2 n rc Es 0 v B := by
  obtain ⟨H, h1, h2', h3, h4, h5, h6, h7⟩ := id I
  obtain ⟨s2, e2, g, c1, c2, c3⟩ := clear_tape (F := F) H
  have gm := FrM.refl m [] [] []
  have H2 := H.frR g
  have T2 : SimT s2 a m 0 → Inv s2 a m n rc Es 0 v B := fun t => ⟨H2, t, h2'.fr H g gm (by decide), h3.fr H g gm (by decide), h4.fr H g gm (by decide), h5.fr H g gm (by decide), h6.fr H g gm (by decide), fun e he => (h7 e he).fr H he g gm (by decide)⟩
  have W2 : WoAt s2 (a 21) (a 22) (a 23) (a 24) (a 25) 0 := by
    obtain ⟨w1, -⟩ := h1.1
    refine ⟨?_, by rw [c1]; rfl, by omega, by rw [c2]; rfl, by rw [c3]; rfl, fun i hi => by simp [wc] at hi⟩
    unfold WoSh
    rw [g.1, g.2.1, g.2.2.1]
    exact w1
  refine ⟨s2, e2, ?_⟩
  have T3 : SimT s2 a m2 0 := ⟨W2, by rw [h2]; rfl, fun i hi => by omega, fun i hi => by omega⟩
  refine ⟨H2, T3, ?_, ?_, ?_, ?_, ?_, ?_⟩
  · have := h2'.fr H g gm (by decide)
    unfold SimF at this ⊢
    rw [f.1.2.2 27 (by decide), f.1.2.1 28 (by decide)]
    exact this
  · have := h3.fr H g gm (by decide)
    unfold SimH at this ⊢
    rw [f.1.2.2 38 (by decide)]
    exact this
  · have := h4.fr H g gm (by decide)
    unfold SimW at this ⊢
    rw [f.1.1 37 (by decide), f.1.2.1 36 (by decide)]
    exact this
  · have h5' := h5.fr H g gm (by decide)
    refine ⟨⟨h5'.1.1, by rw [f.1.1 3 (by decide)]; exact h5'.1.2⟩, fun e he => ?_⟩
    obtain ⟨q1, q2, q3, q4⟩ := h5'.2 e he
    exact ⟨q1, q2.frB q3 he f, q3, q4⟩
  · exact (h6.fr H g gm (by decide)).frB f
  · exact fun e he => ((h7 e he).fr H he g gm (by decide)).frB he f
end KEEPX
