/-! ALL RULES OF A DAY, BY THE CLASS -/
def FrG (s s2 : XS) (ob ar lj : List Nat) : Prop := xT s2 = xT s ∧ xL s2 = xL s ∧ xR s2 = xR s ∧ xO s2 = xO s ∧ xZ s2 = xZ s ∧ (∀ c, c ∉ ob → xI s2 c = xI s c) ∧ (∀ c, c ∉ ar → xA s2 c = xA s c) ∧ ∀ c, c ∉ lj → xJ s2 c = xJ s c
theorem FrG.refl (s : XS) (ob ar lj : List Nat) : FrG s s ob ar lj := ⟨rfl, rfl, rfl, rfl, rfl, fun _ _ => rfl, fun _ _ => rfl, fun _ _ => rfl⟩
theorem FrG.trans {s s2 s3 : XS} {ob ar lj : List Nat} (h : FrG s s2 ob ar lj) (g : FrG s2 s3 ob ar lj) : FrG s s3 ob ar lj := by
  obtain ⟨h1, h2, h3, h4, h5, h6, h7, h8⟩ := h
  obtain ⟨g1, g2, g3, g4, g5, g6, g7, g8⟩ := g
  exact ⟨g1.trans h1, g2.trans h2, g3.trans h3, g4.trans h4, g5.trans h5, fun c hc => (g6 c hc).trans (h6 c hc), fun c hc => (g7 c hc).trans (h7 c hc), fun c hc => (g8 c hc).trans (h8 c hc)⟩
theorem FrG.mono {s s2 : XS} {ob ar lj ob2 ar2 lj2 : List Nat} (h : FrG s s2 ob ar lj) (h1 : ∀ c, c ∈ ob → c ∈ ob2) (h2 : ∀ c, c ∈ ar → c ∈ ar2) (h3 : ∀ c, c ∈ lj → c ∈ lj2) : FrG s s2 ob2 ar2 lj2 := by
  obtain ⟨g1, g2, g3, g4, g5, g6, g7, g8⟩ := h
  exact ⟨g1, g2, g3, g4, g5, fun c hc => g6 c (fun q => hc (h1 c q)), fun c hc => g7 c (fun q => hc (h2 c q)), fun c hc => g8 c (fun q => hc (h3 c q))⟩
theorem FrE.g {a : Nat → Nat} {s s2 : XS} (h : FrE a s s2) : FrG s s2 [a 5] [] [a 6] := by
  obtain ⟨g1, g2, g3, g4, g5, g6, g7, g8⟩ := h
  exact ⟨g1, g2, g3, g5, g6, fun c hc => g7 c (fun e => hc (by simp [e])), fun c _ => by rw [g4], fun c hc => g8 c (fun e => hc (by simp [e]))⟩
theorem Fr.g {s s2 : XS} {ob ar : List Nat} (h : Fr s s2 ob ar) : FrG s s2 ob ar [] := by
  obtain ⟨g1, g2, g3, g4, g5, g6, g7, g8⟩ := h
  exact ⟨g1, g2, g3, g5, g6, g7, g8, fun c _ => by rw [g4]⟩
theorem CE.of {s s2 : XS} {f : Nat → Nat} {E : Ed} (h : CE s f E) (hI : ∀ j, j < 13 + E.1 4 → xI s2 (f j) = xI s (f j)) (hA : ∀ j, j < 13 → xA s2 (f j) = xA s (f j)) : CE s2 f E := by
  obtain ⟨h1, h2, h3, h4⟩ := h
  unfold CE
  rw [hI 0 (by omega), hI 6 (by omega), hI 9 (by omega), hA 7 (by omega), hA 8 (by omega), hA 10 (by omega), hA 11 (by omega)]
  refine ⟨h1, h2, h3, fun k hk => ?_⟩
  rw [hI (13 + k) (by omega)]
  exact h4 k hk
/-- the editions of both sides -/
def EB (s : XS) (a : Nat → Nat) (m : MS) (n : Nat) (Es : Nat → Ed) (rc : Nat → Nat) : Prop :=
  (xI s (a 0) 1 = nI n ∧ m.1 3 = nI n) ∧ ∀ e, e < n → CE s (fun j => a (eR e j)) (Es e) ∧ NE m e (Es e) ∧ WE (Es e) ∧ rc e = (Es e).1 4
/-- a list of roles below 38 that are not the object -/
def Rl (a : Nat → Nat) (l : List Nat) : Prop := ∀ c, c ∈ l → ∃ r, r < 38 ∧ r ≠ 0 ∧ c = a r
section LOOKX
variable {F : Nat} {s s2 : XS} {a : Nat → Nat} {m : MS} {n : Nat} {Es : Nat → Ed} {rc : Nat → Nat} {ob ar lj : List Nat}
theorem Sh.frG (H : Sh s a n rc) (g : FrG s s2 ob ar lj) : Sh s2 a n rc := H.keep g.1 g.2.1 g.2.2.1 g.2.2.2.1 g.2.2.2.2.1
theorem EB.frG (H : Sh s a n rc) (h : EB s a m n Es rc) (g : FrG s s2 ob ar lj) (h1 : Rl a ob) (h2 : Rl a ar) : EB s2 a m n Es rc := by
  obtain ⟨g1, g2, g3, g4, g5, g6, g7, g8⟩ := g
  have n0 : a 0 ∉ ob := fun q => by
    obtain ⟨r, hr, hr0, e⟩ := h1 _ q
    exact H.ne (by decide) hr (Ne.symm hr0) e
  refine ⟨⟨by rw [g6 _ n0]; exact h.1.1, h.1.2⟩, fun e he => ?_⟩
  obtain ⟨q1, q2, q3, q4⟩ := h.2 e he
  refine ⟨q1.of (fun j hj => g6 _ (fun q => ?_)) (fun j hj => g7 _ (fun q => ?_)), q2, q3, q4⟩
  · obtain ⟨r, hr, -, e1⟩ := h1 _ q
    exact H.neE he (by omega) hr e1
  · obtain ⟨r, hr, -, e1⟩ := h2 _ q
    exact H.neE he (by omega) hr e1
theorem SimF.frG (H : Sh s a n rc) (h : SimF s a m) (g : FrG s s2 ob ar lj) (h1 : a 4 ∉ ar) (h2 : a 3 ∉ lj) : SimF s2 a m := by
  intro j hj
  rw [g.2.2.2.2.2.2.1 _ h1, g.2.2.2.2.2.2.2 _ h2]
  exact h j hj
/-- the edition of a day -/
def eo (Es : Nat → Ed) (day : Int32) : Nat → Option Nat
  | 0 => none
  | e + 1 => if nI ((Es e).1 0) ≤ day then some e else eo Es day e
theorem eo_lt {Es : Nat → Ed} {day : Int32} : ∀ {n e : Nat}, eo Es day n = some e → e < n := by
  intro n
  induction n with
  | zero => intro e h; simp [eo] at h
  | succ n ih =>
    intro e h
    unfold eo at h
    by_cases c : nI ((Es n).1 0) ≤ day
    · simp [c] at h; omega
    · simp [c] at h
      have := ih h
      omega
theorem editionOn_loop (H : Sh s a n rc) (h : EB s a m n Es rc) (day : Int32) : ∀ (i z : Nat), i ≤ 6 → i < z → X_LT_editionOn_8 F z s (a 0) day (nI i + (-1)) = some ((eo Es day (min i n)).map (fun e => a (eR e 0)), s) := by
  have t0 : xT s (a 0) = 12 := H.t 0
  have r0_0 : xR s (a 0) 0 = some (a 1) := H.r 0 0
  have r0_2 : xR s (a 0) 2 = some (a 26) := H.r 0 2
  have r0_3 : xR s (a 0) 3 = some (a 34) := H.r 0 3
  have r0_4 : xR s (a 0) 4 = some (a 2) := H.r 0 4
  have r0_5 : xR s (a 0) 5 = some (a 5) := H.r 0 5
  have r0_6 : xR s (a 0) 6 = some (a 7) := H.r 0 6
  have r0_7 : xR s (a 0) 7 = some (a 12) := H.r 0 7
  have r0_8 : xR s (a 0) 8 = some (a 17) := H.r 0 8
  have r0_9 : xR s (a 0) 9 = some (a 19) := H.r 0 9
  have t1 : xT s (a 1) = 41 := H.t 1
  have l1 : xL s (a 1) = 6 := H.l 1
  intro i
  induction i with
  | zero =>
    intro z _ hz
    obtain ⟨z, rfl⟩ : ∃ y, z = y + 1 := ⟨z - 1, by omega⟩
    have e : nI 0 + (-1) < 0 := by decide
    simp [X_LT_editionOn_8, BX_LT_editionOn_8, e, eo]
  | succ i ih =>
    intro z hi hz
    obtain ⟨z, rfl⟩ : ∃ y, z = y + 1 := ⟨z - 1, by omega⟩
    have i1 := ih z (by omega) (by omega)
    have b1 : ¬ nI i < 0 := nI_pos (by omega)
    have b2 : (nI i).toNatClampNeg = i := nI_clamp (by omega)
    have b3 : ¬ 6 ≤ i := by omega
    rw [nI_m1]
    by_cases hn : i < n
    · have em : min (i + 1) n = i + 1 := by omega
      have em2 : min i n = i := by omega
      have eo1 : xO s (a 1) i = some (a (eR i 0)) := H.2.2.2.2.2.1 i hn
      have te : xT s (a (eR i 0)) = 2 := (H.2.2.1 i 0 hn (by omega)).1
      have q := (h.2 i hn).1.1.1
      rw [em2] at i1
      rw [em]
      simp only [eo]
      by_cases c : nI ((Es i).1 0) ≤ day
      · have c2 : ¬ day < nI ((Es i).1 0) := Int32.not_lt.mpr c
        simp [X_LT_editionOn_8, BX_LT_editionOn_8, b1, xGetA, t0, r0_0, xLdO, t1, l1, b2, b3, eo1, hCase, xGetI, te, q, c, c2, xpT, xpL, xpI, xpR, xpA, xpJ, xpO, xpZ, xInt, xN]
      · have c2 : day < nI ((Es i).1 0) := Int32.not_le.mp c
        simp [X_LT_editionOn_8, BX_LT_editionOn_8, b1, xGetA, t0, r0_0, xLdO, t1, l1, b2, b3, eo1, hCase, xGetI, te, q, c, c2, X_LT_editionOn_33, i1, xpT, xpL, xpI, xpR, xpA, xpJ, xpO, xpZ, xInt, xN]
    · have em : min (i + 1) n = n := by omega
      have em2 : min i n = n := by omega
      have eo1 : xO s (a 1) i = none := H.2.2.2.2.2.2.1 i (by omega)
      rw [em2] at i1
      rw [em]
      simp [X_LT_editionOn_8, BX_LT_editionOn_8, b1, xGetA, t0, r0_0, xLdO, t1, l1, b2, b3, eo1, hCase, X_LT_editionOn_33, i1, xpT, xpL, xpI, xpR, xpA, xpJ, xpO, xpZ, xInt, xN]
theorem editionOn_eq (H : Sh s a n rc) (h : EB s a m n Es rc) (hF : 6 < F) (day : Int32) : X_LT_editionOn F s (a 0) day = some ((eo Es day n).map (fun e => a (eR e 0)), s) := by
  have t0 : xT s (a 0) = 12 := H.t 0
  have r0_0 : xR s (a 0) 0 = some (a 1) := H.r 0 0
  have r0_2 : xR s (a 0) 2 = some (a 26) := H.r 0 2
  have r0_3 : xR s (a 0) 3 = some (a 34) := H.r 0 3
  have r0_4 : xR s (a 0) 4 = some (a 2) := H.r 0 4
  have r0_5 : xR s (a 0) 5 = some (a 5) := H.r 0 5
  have r0_6 : xR s (a 0) 6 = some (a 7) := H.r 0 6
  have r0_7 : xR s (a 0) 7 = some (a 12) := H.r 0 7
  have r0_8 : xR s (a 0) 8 = some (a 17) := H.r 0 8
  have r0_9 : xR s (a 0) 9 = some (a 19) := H.r 0 9
  have t1 : xT s (a 1) = 41 := H.t 1
  have l1 : xL s (a 1) = 6 := H.l 1
  have h6 : n ≤ 6 := H.2.2.2.2.2.2.2.2.1
  have e := editionOn_loop (F := F) H h day 6 F (by omega) hF
  rw [show min 6 n = n by omega] at e
  have e6 : nI 6 + (-1) = 5 := by decide
  rw [e6] at e
  simp [X_LT_editionOn, xGetA, t0, r0_0, xLen, t1, l1, e, xpT, xpL, xpI, xpR, xpA, xpJ, xpO, xpZ, xInt, xN]
/-- the findings b: 7 latest, 12 trial -/
theorem Sh.fi (H : Sh s a n rc) {b : Nat} (hb : b = 7 ∨ b = 12) : FiSh s (a b) (a (b + 1)) (a (b + 2)) (a (b + 3)) (a (b + 4)) := by
  rcases hb with rfl | rfl
  · exact ⟨H.t 7, H.r 7 0, H.r 7 1, H.r 7 2, H.r 7 3, ⟨H.t 8, H.l 8⟩, ⟨H.t 9, H.l 9⟩, ⟨H.t 10, H.l 10⟩, ⟨H.t 11, H.l 11⟩, H.ne, H.ne, H.ne, H.ne, H.ne, H.ne⟩
  · exact ⟨H.t 12, H.r 12 0, H.r 12 1, H.r 12 2, H.r 12 3, ⟨H.t 13, H.l 13⟩, ⟨H.t 14, H.l 14⟩, ⟨H.t 15, H.l 15⟩, ⟨H.t 16, H.l 16⟩, H.ne, H.ne, H.ne, H.ne, H.ne, H.ne⟩
def lo (a : Nat → Nat) (b : Nat) : List Nat := [a 5, a b]
def la (a : Nat → Nat) (b : Nat) : List Nat := [a (b + 1), a (b + 2), a (b + 3), a (b + 4)]
theorem lo_rl {b : Nat} (hb : b = 7 ∨ b = 12) : Rl a (lo a b) := by
  intro c hc
  simp only [lo, List.mem_cons, List.not_mem_nil, or_false] at hc
  rcases hc with rfl | rfl
  · exact ⟨5, by decide, by decide, rfl⟩
  · exact ⟨b, by omega, by omega, rfl⟩
theorem la_rl {b : Nat} (hb : b = 7 ∨ b = 12) : Rl a (la a b) := by
  intro c hc
  simp only [la, List.mem_cons, List.not_mem_nil, or_false] at hc
  rcases hc with rfl | rfl | rfl | rfl
  · exact ⟨b + 1, by omega, by omega, rfl⟩
  · exact ⟨b + 2, by omega, by omega, rfl⟩
  · exact ⟨b + 3, by omega, by omega, rfl⟩
  · exact ⟨b + 4, by omega, by omega, rfl⟩
theorem la_4 (H : Sh s a n rc) {b : Nat} (hb : b = 7 ∨ b = 12) : a 4 ∉ la a b := by
  intro hc
  simp only [la, List.mem_cons, List.not_mem_nil, or_false] at hc
  rcases hb with rfl | rfl <;> rcases hc with e | e | e | e <;> exact absurd e H.ne
theorem l6_3 (H : Sh s a n rc) : a 3 ∉ [a 6] := by
  intro hc
  simp only [List.mem_cons, List.not_mem_nil, or_false] at hc
  exact absurd hc H.ne
theorem FiAt.congr {v w0 w1 w2 w3 c : Nat} {o o2 : Nat → Int32 × Int32 × Int32 × Int32} (h : FiAt s v w0 w1 w2 w3 c o) (g : ∀ r, r < c → o r = o2 r) : FiAt s v w0 w1 w2 w3 c o2 := ⟨h.1, h.2.1, fun r hr => by rw [← g r hr]; exact h.2.2 r hr⟩
/-- the findings of an edition -/
def fo (E : Ed) (m : MS) (r : Nat) : Int32 × Int32 × Int32 × Int32 := ((jd E (m.2.2 27) (m.2.1 28) r).1, (jd E (m.2.2 27) (m.2.1 28) r).2.1, (jd E (m.2.2 27) (m.2.1 28) r).2.2, nI (E.2 5 r))
theorem lookX_loop {b e : Nat} (hb : b = 7 ∨ b = 12) (he : e < n) (hF : 400 < F) : ∀ (d k z : Nat) (s : XS), k + d = (Es e).1 4 → d < z → Sh s a n rc → EB s a m n Es rc → SimF s a m → FiAt s (a b) (a (b + 1)) (a (b + 2)) (a (b + 3)) (a (b + 4)) k (fo (Es e) m) →
    ∃ s2, X_LT_look_22 F z s (a 0) (a b) (some (a (eR e 0))) (nI k) = some (ans (fun r => (jd (Es e) (m.2.2 27) (m.2.1 28) r).1) ((Es e).1 4), s2) ∧ FrG s s2 (lo a b) (la a b) [a 6] ∧ FiAt s2 (a b) (a (b + 1)) (a (b + 2)) (a (b + 3)) (a (b + 4)) ((Es e).1 4) (fo (Es e) m) := by
  intro d
  induction d with
  | zero =>
    intro k z s hk hz H h hf A
    obtain ⟨z, rfl⟩ : ∃ y, z = y + 1 := ⟨z - 1, by omega⟩
    obtain ⟨q1, q2, q3, q4⟩ := h.2 e he
    have te : xT s (a (eR e 0)) = 2 := (H.2.2.1 e 0 he (by omega)).1
    have ek : k = (Es e).1 4 := by omega
    subst ek
    have W := H.fi hb
    have ea := fi_answer (F := F) W A (by omega)
    have b1 : nI ((Es e).1 4) ≤ nI ((Es e).1 4) := Int32.le_refl _
    refine ⟨s, ?_, FrG.refl s _ _ _, A⟩
    simp [X_LT_look_22, BX_LT_look_22, xGetI, te, q1.1.2, b1, xIs, W.1, ea, fo, xpT, xpL, xpI, xpR, xpA, xpJ, xpO, xpZ, xInt, xN]
  | succ d ih =>
    intro k z s hk hz H h hf A
    obtain ⟨z, rfl⟩ : ∃ y, z = y + 1 := ⟨z - 1, by omega⟩
    obtain ⟨q1, q2, q3, q4⟩ := h.2 e he
    have t0 : xT s (a 0) = 12 := H.t 0
    have r0_0 : xR s (a 0) 0 = some (a 1) := H.r 0 0
    have r0_2 : xR s (a 0) 2 = some (a 26) := H.r 0 2
    have r0_3 : xR s (a 0) 3 = some (a 34) := H.r 0 3
    have r0_4 : xR s (a 0) 4 = some (a 2) := H.r 0 4
    have r0_5 : xR s (a 0) 5 = some (a 5) := H.r 0 5
    have r0_6 : xR s (a 0) 6 = some (a 7) := H.r 0 6
    have r0_7 : xR s (a 0) 7 = some (a 12) := H.r 0 7
    have r0_8 : xR s (a 0) 8 = some (a 17) := H.r 0 8
    have r0_9 : xR s (a 0) 9 = some (a 19) := H.r 0 9
    have t5 : xT s (a 5) = 6 := H.t 5
    have r5_0 : xR s (a 5) 0 = some (a 2) := H.r 5 0
    have r5_1 : xR s (a 5) 1 = some (a 6) := H.r 5 1
    have K := H.ed he
    have W := H.fi hb
    have te : xT s (a (eR e 0)) = 2 := K.t 0
    have te2 : xT s (a (eR e 12)) = 46 := K.t 12
    have le2 : xL s (a (eR e 12)) = 12 := K.l 12
    have re : xR s (a (eR e 0)) 3 = some (a (eR e 12)) := K.r 0 3
    have ro : xO s (a (eR e 12)) k = some (a (eR e (13 + k))) := K.2.2.1 k (by omega)
    have tk : xT s (a (eR e (13 + k))) = 7 := K.rt (by omega)
    have h12 := q3.2.2.2.1
    have b0 : ¬ nI k < 0 := nI_pos (by omega)
    have b1 : ¬ nI ((Es e).1 4) ≤ nI k := nI_ge (by omega) (by omega)
    have e12 : Int32.ofNat 12 = nI 12 := rfl
    have b2 : ¬ nI 12 ≤ nI k := nI_ge (by omega) (by decide)
    have b3 : (nI k).toNatClampNeg = k := nI_clamp (by omega)
    have b4 : ¬ 12 ≤ k := by omega
    obtain ⟨s2, ej, f2, j3, j4⟩ := judge_eq (F := F) (f := fun j => a (eR e j)) H K q4 q1 q3 hf (k := k) (by omega) hF
    have g2 := f2.g
    have H2 := H.frE f2
    have W2 := H2.fi hb
    have nb5 : a b ≠ a 5 := by rcases hb with rfl | rfl <;> exact H.ne
    have A2 : FiAt s2 (a b) (a (b + 1)) (a (b + 2)) (a (b + 3)) (a (b + 4)) k (fo (Es e) m) := by
      obtain ⟨a1, a2, a3⟩ := A
      refine ⟨by rw [f2.2.2.2.2.2.2.1 _ nb5]; exact a1, a2, fun r hr => ?_⟩
      rw [f2.2.2.2.1]
      exact a3 r hr
    have tk2 : xT s2 (a (eR e (13 + k))) = 7 := by rw [f2.1]; exact tk
    have nk5 : a (eR e (13 + k)) ≠ a 5 := H.neE he (by omega) (by decide)
    have fk2 : xI s2 (a (eR e (13 + k))) 0 = nI ((Es e).2 5 k) := by rw [f2.2.2.2.2.2.2.1 _ nk5]; exact (q1.2.2.2 k (by omega)).1
    have t02 : xT s2 (a 0) = 12 := H2.t 0
    have t52 : xT s2 (a 5) = 6 := H2.t 5
    have r02 : xR s2 (a 0) 5 = some (a 5) := H2.r 0 5
    obtain ⟨s3, e3, A3, f3⟩ := fi_add (F := F) W2 A2 (by omega) (jd (Es e) (m.2.2 27) (m.2.1 28) k).1 (jd (Es e) (m.2.2 27) (m.2.1 28) k).2.1 (jd (Es e) (m.2.2 27) (m.2.1 28) k).2.2 (nI ((Es e).2 5 k))
    have g23 : FrG s s3 (lo a b) (la a b) [a 6] := (g2.mono (by simp [lo]) (by simp) (by simp)).trans ((Fr.g f3).mono (by simp [lo]) (by simp [la]) (by simp))
    obtain ⟨s4, e4, g4, A4⟩ := ih (k + 1) z s3 (by omega) (by omega) (H.frG g23) (h.frG H g23 (lo_rl hb) (la_rl hb)) (hf.frG H g23 (la_4 H hb) (l6_3 H)) (A3.congr (fun r hr => by
      by_cases q : r = k
      · simp [q, fo]
      · simp [q]))
    refine ⟨s4, ?_, g23.trans g4, A4⟩
    have er : X_Edition_ruleAt F s (a (eR e 0)) (nI k) = some (some (a (eR e (13 + k))), s) := by
      simp [X_Edition_ruleAt, b0, xGetI, te, q1.1.2, b1, xGetA, re, xLen, te2, le2, e12, b2, xLdO, b3, b4, ro, xpT, xpL, xpI, xpR, xpA, xpJ, xpO, xpZ, xInt, xN]
    simp [X_LT_look_22, BX_LT_look_22, xGetI, te, q1.1.2, b1, xIs, er, hCase, xGetA, t0, r0_5, t5, ej, t02, r02, t52, j3, j4, tk2, fk2, W2.1, e3, X_LT_look_81, nI_1, e4, xpT, xpL, xpI, xpR, xpA, xpJ, xpO, xpZ, xInt, xN]
/-- what a look answers and finds -/
def la2 (Es : Nat → Ed) (m : MS) : Option Nat → Int32
  | none => 0
  | some e => ans (fun r => (jd (Es e) (m.2.2 27) (m.2.1 28) r).1) ((Es e).1 4)
def lc2 (Es : Nat → Ed) : Option Nat → Nat
  | none => 0
  | some e => (Es e).1 4
def lf2 (Es : Nat → Ed) (m : MS) : Option Nat → Nat → Int32 × Int32 × Int32 × Int32
  | none => fun _ => (0, 0, 0, 0)
  | some e => fo (Es e) m
theorem lookX (H : Sh s a n rc) (h : EB s a m n Es rc) (hf : SimF s a m) {b : Nat} (hb : b = 7 ∨ b = 12) (hF : 400 < F) (day : Int32) : ∃ s2, X_LT_look F s (a 0) day (a b) = some (la2 Es m (eo Es day n), s2) ∧ FrG s s2 (lo a b) (la a b) [a 6] ∧ FiAt s2 (a b) (a (b + 1)) (a (b + 2)) (a (b + 3)) (a (b + 4)) (lc2 Es (eo Es day n)) (lf2 Es m (eo Es day n)) := by
  have W := H.fi hb
  have ec := fi_clear (F := F) W
  obtain ⟨s1, hs1⟩ : ∃ y : XS, y = (xT s, xL s, xUp (xI s) (a b) 4 0, xR s, xA s, xJ s, xO s, xZ s) := ⟨_, rfl⟩
  rw [← hs1] at ec
  have g1 : FrG s s1 (lo a b) (la a b) [a 6] := by
    rw [hs1]
    exact ⟨rfl, rfl, rfl, rfl, rfl, fun c hc => xUp_ne _ _ _ (fun e => hc (by simp [lo, e])), fun c _ => rfl, fun c _ => rfl⟩
  have H1 := H.frG g1
  have h1 := h.frG H g1 (lo_rl hb) (la_rl hb)
  have W1 := H1.fi hb
  have t01 : xT s1 (a 0) = 12 := H1.t 0
  have eE := editionOn_eq (F := F) H1 h1 (by omega) day
  have i1 : xI s1 (a b) 4 = nI 0 := by rw [hs1]; simp [xUp, nIk0, xpT, xpL, xpI, xpR, xpA, xpJ, xpO, xpZ, xInt, xN]
  cases he : eo Es day n with
  | none =>
    rw [he] at eE
    have A1 : FiAt s1 (a b) (a (b + 1)) (a (b + 2)) (a (b + 3)) (a (b + 4)) 0 (fun _ => (0, 0, 0, 0)) := ⟨i1, by omega, fun r hr => by omega⟩
    have ea := fi_answer (F := F) W1 A1 (by omega)
    have e0 : ans (fun _ : Nat => (0 : Int32)) 0 = 0 := rfl
    refine ⟨s1, ?_, g1, A1⟩
    simp [X_LT_look, xIs, W.1, ec, t01, eE, hCase, W1.1, ea, e0, la2]
  | some e =>
    rw [he] at eE
    have hen := eo_lt he
    have A1 : FiAt s1 (a b) (a (b + 1)) (a (b + 2)) (a (b + 3)) (a (b + 4)) 0 (fo (Es e) m) := ⟨i1, by omega, fun r hr => by omega⟩
    have h12 := (h.2 e hen).2.2.1.2.2.2.1
    obtain ⟨s2, e2, g2, A2⟩ := lookX_loop (F := F) hb hen hF ((Es e).1 4) 0 F s1 (by omega) (by omega) H1 h1 (hf.frG H g1 (la_4 H hb) (l6_3 H)) A1
    refine ⟨s2, ?_, g1.trans g2, A2⟩
    rw [nIk0] at e2
    simp [X_LT_look, xIs, W.1, ec, t01, eE, hCase, e2, la2]
end LOOKX
