/-! A RULE, BY THE CLASS -/
theorem SimF.frE {s s2 : XS} {a : Nat → Nat} {n : Nat} {rc : Nat → Nat} {m : MS} (H : Sh s a n rc) (h : SimF s a m) (g : FrE a s s2) : SimF s2 a m := by
  obtain ⟨g1, g2, g3, g4, g5, g6, g7, g8⟩ := g
  intro j hj
  rw [g4, g8 (a 3) (H.ne)]
  exact h j hj
/-- a step goes on, or stops -/
theorem follow_step {F : Nat} {s : XS} {a : Nat → Nat} {n : Nat} {rc : Nat → Nat} {f : Nat → Nat} {r : Nat} {E : Ed} {p : Nat → Int64} {m : MS} {i to : Nat} {rr : XS → Nat → Nat → Int32 → Int32 → Option (Int32 × XS)} (H : Sh s a n rc) (K : ESh s f r) (hr : r = E.1 4) (hc : CE s f E) (hw : WE E) (hf : SimF s a m) (hi : i < to) (hto : to ≤ E.1 2) (R : RS s a (E.2 2 i) p) (h64 : E.2 2 i ≤ 64) (c3 : xI s (a 5) 3 = -1) (c4 : xI s (a 5) 4 = -1) :
    ∃ s2, BX_Reckoner_follow_8 F rr s (a 5) (f 0) (nI to) (nI i) = (if (s1 E (m.2.2 27) (m.2.1 28) i (E.2 2 i) p).1 = 0 then rr s2 (a 5) (f 0) (nI to) (nI (i + 1)) else some ((s1 E (m.2.2 27) (m.2.1 28) i (E.2 2 i) p).1, s2)) ∧ FrE a s s2 ∧ xI s2 (a 5) 3 = (s1 E (m.2.2 27) (m.2.1 28) i (E.2 2 i) p).2.1 ∧ xI s2 (a 5) 4 = (s1 E (m.2.2 27) (m.2.1 28) i (E.2 2 i) p).2.2.1 ∧ ((s1 E (m.2.2 27) (m.2.1 28) i (E.2 2 i) p).1 = 0 → RS s2 a (s1 E (m.2.2 27) (m.2.1 28) i (E.2 2 i) p).2.2.2.1 (s1 E (m.2.2 27) (m.2.1 28) i (E.2 2 i) p).2.2.2.2) := by
  have hw0 := hw
  obtain ⟨w1, w2, w3, w4, w5, w6, w7⟩ := hw
  have w := w5 i (by omega)
  have t5 : xT s (a 5) = 6 := H.t 5
  have r5_0 : xR s (a 5) 0 = some (a 2) := H.r 5 0
  have r5_1 : xR s (a 5) 1 = some (a 6) := H.r 5 1
  have et0 : xT s (f 0) = 2 := K.t 0
  have er0_0 : xR s (f 0) 0 = some (f 1) := K.r 0 0
  have er0_1 : xR s (f 0) 1 = some (f 6) := K.r 0 1
  have er0_2 : xR s (f 0) 2 = some (f 9) := K.r 0 2
  have er0_3 : xR s (f 0) 3 = some (f 12) := K.r 0 3
  have et6 : xT s (f 6) = 8 := K.t 6
  have er6_0 : xR s (f 6) 0 = some (f 7) := K.r 6 0
  have er6_1 : xR s (f 6) 1 = some (f 8) := K.r 6 1
  have et7 : xT s (f 7) = 20 := K.t 7
  have el7 : xL s (f 7) = 400 := K.l 7
  have et8 : xT s (f 8) = 20 := K.t 8
  have el8 : xL s (f 8) = 400 := K.l 8
  have et9 : xT s (f 9) = 9 := K.t 9
  have er9_0 : xR s (f 9) 0 = some (f 10) := K.r 9 0
  have er9_1 : xR s (f 9) 1 = some (f 11) := K.r 9 1
  have C0 := hc
  obtain ⟨-, ⟨cS, cK⟩, -, -⟩ := C0
  obtain ⟨k1, k2⟩ := cK i (by omega)
  obtain ⟨e1, e2⟩ := X_kindAt_eq (F := F) et6 er6_0 er6_1 et7 el7 et8 el8 cS (i := i) (by omega) w2
  rw [k1] at e1
  have b1 : ¬ nI to ≤ nI i := nI_ge hi (by omega)
  -- the head
  have pre : BX_Reckoner_follow_8 F rr s (a 5) (f 0) (nI to) (nI i) = if nI (E.2 0 i) < 9 then ((X_Reckoner_reckon F s (a 5) (nI (E.2 0 i)) (xA s (f 8) i) (f 9)).bind fun q13 => if q13.1 = 0 then some (2, q13.2) else rr q13.2 (a 5) (f 0) (nI to) (nI (i + 1))) else ((X_Reckoner_related F s (a 5) (nI (E.2 0 i))).bind fun q17 => if q17.1 = 0 then some (1, q17.2) else rr q17.2 (a 5) (f 0) (nI to) (nI (i + 1))) := by
    simp [BX_Reckoner_follow_8, b1, xGetA, et0, er0_1, er0_2, xIs, et6, e1, e2, t5, X_Reckoner_follow_71, nI_1, xpT, xpL, xpI, xpR, xpA, xpJ, xpO, xpZ, xInt, xN]
  have fin : ∀ (x : Option (Int32 × XS)) (y : Int32 × Int32 × Int32 × Nat × (Nat → Int64)) (c : Int32), StR s a x y → (y.1 = 0 ∨ y.1 = c) → ∃ s2, (x.bind fun q => if q.1 = 0 then some (c, q.2) else rr q.2 (a 5) (f 0) (nI to) (nI (i + 1))) = (if y.1 = 0 then rr s2 (a 5) (f 0) (nI to) (nI (i + 1)) else some (y.1, s2)) ∧ FrE a s s2 ∧ xI s2 (a 5) 3 = y.2.1 ∧ xI s2 (a 5) 4 = y.2.2.1 ∧ (y.1 = 0 → RS s2 a y.2.2.2.1 y.2.2.2.2) := by
    intro x y c hS hy
    obtain ⟨s2, e, g1, g2, g3, g4⟩ := hS
    refine ⟨s2, ?_, g1, g2, g3, g4⟩
    rw [e]
    by_cases h : y.1 = 0
    · simp [h]
    · simp [h]
      exact (hy.resolve_left h).symm
  rw [pre]
  obtain ⟨w, h65⟩ := w
  rcases w with ⟨v1, v2, v3⟩ | ⟨v1, v2, v3⟩ | ⟨v1, v2, v3, v4⟩ | ⟨v1, v2, v3, v4⟩ | ⟨v1, v2, v3, v4⟩
  · -- a number
    rw [v1, if_pos (show (2 : Nat) ≥ 0 by decide)] at k2
    obtain ⟨s3, e3, f3, h3, h4, R3⟩ := st_number (F := F) H R (by omega) c3 c4 (nI (E.2 1 i)).toInt64
    have es : s1 E (m.2.2 27) (m.2.1 28) i (E.2 2 i) p = (0, -1, -1, E.2 2 i + 1, vp_updL p (E.2 2 i) (nI (E.2 1 i)).toInt64) := by simp [s1, v1]
    rw [es, v1, nIk0, if_pos (by decide)]
    apply fin _ _ 2 _ (Or.inl rfl)
    refine ⟨s3, ?_, f3, h3, h4, fun _ => R3⟩
    rw [k2]
    simp [X_Reckoner_reckon, xIs, t5, e3]
  · -- a fact
    rw [v1, if_pos (show (1 : Nat) ≤ 2 by decide)] at k2
    have es : s1 E (m.2.2 27) (m.2.1 28) i (E.2 2 i) p = if m.2.1 28 (E.2 1 i) = 0 then (2, 3, nI (E.2 1 i), E.2 2 i, p) else (0, -1, -1, E.2 2 i + 1, vp_updL p (E.2 2 i) (m.2.2 27 (E.2 1 i))) := by simp [s1, v1]
    have S := st_fact (F := F) H hf R (by omega) c3 c4 v2
    rw [← es] at S
    rw [v1, nIk1, if_pos (by decide), k2]
    obtain ⟨s3, e3, q⟩ := S
    apply fin _ _ 2
    · refine ⟨s3, ?_, q⟩
      simp only [X_Reckoner_reckon, xIs, t5, e3]
      by_cases h : (s1 E (m.2.2 27) (m.2.1 28) i (E.2 2 i) p).1 = 0 <;> simp [h, hZ]
    · rw [es]
      by_cases h : m.2.1 28 (E.2 1 i) = 0 <;> simp [h]
  · -- a place
    rw [v1, if_pos (show (2 : Nat) ≤ 2 by decide)] at k2
    obtain ⟨t, ht⟩ : ∃ t, E.2 2 i = t + 1 := ⟨E.2 2 i - 1, by omega⟩
    have es : s1 E (m.2.2 27) (m.2.1 28) i (E.2 2 i) p = if p t < 0 ∨ (nI (E.2 3 (E.2 1 i))).toInt64 ≤ p t then (2, 2, -1, t + 1, p) else (0, -1, -1, t + 1, vp_updL p t (nI (E.2 4 (10 * E.2 1 i + (p t).toNatClampNeg))).toInt64) := by simp [s1, v1, ht]
    rw [ht] at R
    have S := st_place (F := F) H K hr hc hw0 R (by omega) c3 c4 v2
    rw [← es] at S
    rw [v1, nIk2, if_pos (by decide), k2]
    obtain ⟨s3, e3, q⟩ := S
    apply fin _ _ 2
    · refine ⟨s3, ?_, q⟩
      simp only [X_Reckoner_reckon, xIs, t5, e3]
      by_cases h : (s1 E (m.2.2 27) (m.2.1 28) i (E.2 2 i) p).1 = 0 <;> simp [h, hZ]
    · rw [es]
      by_cases h : p t < 0 ∨ (nI (E.2 3 (E.2 1 i))).toInt64 ≤ p t <;> simp [h]
  · -- an operator
    obtain ⟨t, ht⟩ : ∃ t, E.2 2 i = t + 2 := ⟨E.2 2 i - 2, by omega⟩
    have n0 : ¬ E.2 0 i = 0 := by omega
    have n1 : ¬ E.2 0 i = 1 := by omega
    have n2 : ¬ E.2 0 i = 2 := by omega
    have es : s1 E (m.2.2 27) (m.2.1 28) i (E.2 2 i) p = if 7 ≤ E.2 0 i ∧ p (t + 1) = 0 then (2, 1, -1, t + 2, p) else (0, -1, -1, t + 1, vp_updL p t (cb (E.2 0 i) (p t) (p (t + 1)))) := by simp [s1, n0, n1, n2, v2, ht]
    rw [ht] at R
    have S := st_combine (F := F) H R (by omega) c3 c4 v1 v2
    rw [← es] at S
    have z0 : ¬ nI (E.2 0 i) = 0 := fun e => n0 ((nI_k (k := 0) (by omega) (by decide)).mp e)
    have z1 : ¬ nI (E.2 0 i) = 1 := fun e => n1 ((nI_k (k := 1) (by omega) (by decide)).mp e)
    have z2 : ¬ nI (E.2 0 i) = 2 := fun e => n2 ((nI_k (k := 2) (by omega) (by decide)).mp e)
    have z9 : nI (E.2 0 i) < 9 := nI_lt (b := 9) v2 (by decide)
    rw [if_pos z9]
    obtain ⟨s3, e3, q⟩ := S
    apply fin _ _ 2
    · refine ⟨s3, ?_, q⟩
      simp only [X_Reckoner_reckon, z0, z1, z2, if_false, xIs, t5, e3]
      by_cases h : (s1 E (m.2.2 27) (m.2.1 28) i (E.2 2 i) p).1 = 0 <;> simp [h, hZ]
    · rw [es]
      by_cases h : 7 ≤ E.2 0 i ∧ p (t + 1) = 0 <;> simp [h]
  · -- a relation
    have n0 : ¬ E.2 0 i = 0 := by omega
    have n1 : ¬ E.2 0 i = 1 := by omega
    have n2 : ¬ E.2 0 i = 2 := by omega
    have n3 : ¬ E.2 0 i < 9 := by omega
    have es : s1 E (m.2.2 27) (m.2.1 28) i (E.2 2 i) p = if rl (E.2 0 i) (p 0) (p 1) then (0, -1, -1, 0, p) else (1, -1, -1, 2, p) := by simp [s1, n0, n1, n2, n3, v3]
    rw [v3] at R
    have S := st_related (F := F) (top := 0) H R (by omega) c3 c4 v1 v2
    rw [← es] at S
    have z9 : ¬ nI (E.2 0 i) < 9 := nI_nlt (b := 9) v1 (by omega)
    rw [if_neg z9]
    obtain ⟨s3, e3, q⟩ := S
    apply fin _ _ 1
    · exact ⟨s3, e3, q⟩
    · rw [es]
      by_cases h : rl (E.2 0 i) (p 0) (p 1) = true <;> simp [h]
theorem follow_loop {F : Nat} {a : Nat → Nat} {n : Nat} {rc : Nat → Nat} {f : Nat → Nat} {r : Nat} {E : Ed} {m : MS} {to : Nat} (hr : r = E.1 4) (hw : WE E) (hto : to ≤ E.1 2) : ∀ (k i z : Nat) (s : XS) (p : Nat → Int64), i + k = to → k < z → Sh s a n rc → ESh s f r → CE s f E → SimF s a m → RS s a (E.2 2 i) p → E.2 2 i ≤ 64 → xI s (a 5) 3 = -1 → xI s (a 5) 4 = -1 →
    ∃ s2, X_Reckoner_follow_8 F z s (a 5) (f 0) (nI to) (nI i) = some ((sL E (m.2.2 27) (m.2.1 28) k i (E.2 2 i) p).1, s2) ∧ FrE a s s2 ∧ xI s2 (a 5) 3 = (sL E (m.2.2 27) (m.2.1 28) k i (E.2 2 i) p).2.1 ∧ xI s2 (a 5) 4 = (sL E (m.2.2 27) (m.2.1 28) k i (E.2 2 i) p).2.2.1 ∧ ((sL E (m.2.2 27) (m.2.1 28) k i (E.2 2 i) p).1 = 0 → (sL E (m.2.2 27) (m.2.1 28) k i (E.2 2 i) p).2.2.2.2.1 = E.2 2 to ∧ RS s2 a (E.2 2 to) (sL E (m.2.2 27) (m.2.1 28) k i (E.2 2 i) p).2.2.2.2.2) := by
  intro k
  induction k with
  | zero =>
    intro i z s p hi hz H K hc hf R h64 c3 c4
    obtain ⟨z, rfl⟩ : ∃ y, z = y + 1 := ⟨z - 1, by omega⟩
    have e : i = to := by omega
    subst e
    have b1 : nI i ≤ nI i := nI_le (Nat.le_refl i) (by have := hw.2.1; omega)
    exact ⟨s, by simp [X_Reckoner_follow_8, BX_Reckoner_follow_8, sL, b1], FrE.refl a s, c3, c4, fun _ => ⟨rfl, R⟩⟩
  | succ k ih =>
    intro i z s p hi hz H K hc hf R h64 c3 c4
    obtain ⟨z, rfl⟩ : ∃ y, z = y + 1 := ⟨z - 1, by omega⟩
    obtain ⟨s2, e, g1, g2, g3, g4⟩ := follow_step (F := F) (rr := X_Reckoner_follow_8 F z) H K hr hc hw hf (i := i) (to := to) (by omega) hto R h64 c3 c4
    have w := hw.2.2.2.2.1 i (by omega)
    simp only [sL]
    have eu : X_Reckoner_follow_8 F (z + 1) s (a 5) (f 0) (nI to) (nI i) = BX_Reckoner_follow_8 F (X_Reckoner_follow_8 F z) s (a 5) (f 0) (nI to) (nI i) := rfl
    rw [eu, e]
    by_cases h : (s1 E (m.2.2 27) (m.2.1 28) i (E.2 2 i) p).1 = 0
    · have et := s1_top w h
      have R2 := g4 h
      rw [et] at R2
      have em : (s1 E (m.2.2 27) (m.2.1 28) i (E.2 2 i) p).2.1 = -1 ∧ (s1 E (m.2.2 27) (m.2.1 28) i (E.2 2 i) p).2.2.1 = -1 := by
        revert h
        unfold s1
        repeat' split
        all_goals simp
      rw [em.1] at g2
      rw [em.2] at g3
      obtain ⟨s3, e3, q1, q2, q3, q4⟩ := ih (i + 1) z s2 (s1 E (m.2.2 27) (m.2.1 28) i (E.2 2 i) p).2.2.2.2 (by omega) (by omega) (H.frE g1) (K.frE g1) (hc.frE H K hr g1) (hf.frE H g1) R2 w.2 g2 g3
      rw [if_pos h, if_pos h, et]
      exact ⟨s3, e3, g1.trans q1, q2, q3, q4⟩
    · rw [if_neg h, if_neg h]
      exact ⟨s2, rfl, g1, g2, g3, fun q => absurd q h⟩
theorem sL_m1 (E : Ed) (fv : Nat → Int64) (ft : Nat → Int32) : ∀ (n i top : Nat) (p : Nat → Int64), (sL E fv ft n i top p).1 = 0 → (sL E fv ft n i top p).2.1 = -1 ∧ (sL E fv ft n i top p).2.2.1 = -1 := by
  intro n
  induction n with
  | zero => intro i top p _; exact ⟨rfl, rfl⟩
  | succ n ih =>
    intro i top p
    simp only [sL]
    by_cases h : (s1 E fv ft i top p).1 = 0
    · rw [if_pos h]; exact ih _ _ _
    · rw [if_neg h]; exact fun q => absurd q h
/-- what is found of rule k: outcome, reason, what is lacking -/
def jd (E : Ed) (fv : Nat → Int64) (ft : Nat → Int32) (k : Nat) : Int32 × Int32 × Int32 :=
  let q := sL E fv ft (E.2 9 k - E.2 6 k) (E.2 6 k) 0 (fun _ => 0)
  (if q.1 = 1 ∧ q.2.2.2.1 < E.2 8 k then 3 else q.1, q.2.1, q.2.2.1)
theorem judge_eq {F : Nat} {s : XS} {a : Nat → Nat} {n : Nat} {rc : Nat → Nat} {f : Nat → Nat} {r : Nat} {E : Ed} {m : MS} {k : Nat} (H : Sh s a n rc) (K : ESh s f r) (hr : r = E.1 4) (hc : CE s f E) (hw : WE E) (hf : SimF s a m) (hk : k < E.1 4) (hF : 400 < F) :
    ∃ s2, X_Reckoner_judge F s (a 5) (f 0) (f (13 + k)) = some ((jd E (m.2.2 27) (m.2.1 28) k).1, s2) ∧ FrE a s s2 ∧ xI s2 (a 5) 3 = (jd E (m.2.2 27) (m.2.1 28) k).2.1 ∧ xI s2 (a 5) 4 = (jd E (m.2.2 27) (m.2.1 28) k).2.2 := by
  have hw0 := hw
  obtain ⟨w1, w2, w3, w4, w5, w6, w7⟩ := hw
  obtain ⟨v1, v2, v3, v4, v5, v6⟩ := w7 k hk
  have t5 : xT s (a 5) = 6 := H.t 5
  have r5_0 : xR s (a 5) 0 = some (a 2) := H.r 5 0
  have r5_1 : xR s (a 5) 1 = some (a 6) := H.r 5 1
  have tk : xT s (f (13 + k)) = 7 := K.rt (by omega)
  have nk : f (13 + k) ≠ a 5 := fun e => by rw [e, t5] at tk; omega
  have cR := hc.2.2.2 k hk
  obtain ⟨s0, hs0⟩ : ∃ y : XS, y = (xT s, xL s, xUp (xUp (xI s) (a 5) 3 (-1)) (a 5) 4 (-1), xR s, xA s, xJ s, xO s, xZ s) := ⟨_, rfl⟩
  have f0 : FrE a s s0 := by rw [hs0]; exact FrE.up s _ _ (fun c hc => by rw [xUp_ne _ _ _ hc, xUp_ne _ _ _ hc]) (fun c hc => rfl)
  obtain ⟨s1, hs1⟩ : ∃ y : XS, y = (xT s0, xL s0, xUp (xI s0) (a 5) 2 0, xR s0, xA s0, xJ s0, xO s0, xZ s0) := ⟨_, rfl⟩
  have f1 : FrE a s0 s1 := by rw [hs1]; exact FrE.up s0 _ _ (fun c hc => xUp_ne _ _ _ hc) (fun c hc => rfl)
  have f01 := f0.trans f1
  have c3 : xI s1 (a 5) 3 = -1 := by rw [hs1, hs0]; simp [xUp, xpT, xpL, xpI, xpR, xpA, xpJ, xpO, xpZ, xInt, xN]
  have c4 : xI s1 (a 5) 4 = -1 := by rw [hs1, hs0]; simp [xUp, xpT, xpL, xpI, xpR, xpA, xpJ, xpO, xpZ, xInt, xN]
  have c2 : xI s1 (a 5) 2 = nI 0 := by rw [hs1, hs0]; simp [xUp, nIk0, xpT, xpL, xpI, xpR, xpA, xpJ, xpO, xpZ, xInt, xN]
  have t50 : xT s0 (a 5) = 6 := (H.frE f0).t 5
  have R0 : RS s1 a (E.2 2 (E.2 6 k)) (fun _ => 0) := by rw [v4]; exact ⟨c2, fun j hj => by omega⟩
  obtain ⟨s2, e2, g1, g2, g3, g4⟩ := follow_loop (F := F) (m := m) hr hw0 (to := E.2 8 k) (by omega) (E.2 8 k - E.2 6 k) (E.2 6 k) F s1 (fun _ => 0) (by omega) (by omega) (H.frE f01) (K.frE f01) (hc.frE H K hr f01) (hf.frE H f01) R0 (by omega) c3 c4
  have ef : X_Reckoner_follow F s0 (a 5) (f 0) (nI (E.2 6 k)) (nI (E.2 8 k)) = X_Reckoner_follow_8 F F s1 (a 5) (f 0) (nI (E.2 8 k)) (nI (E.2 6 k)) := by
    rw [hs1]; simp [X_Reckoner_follow, xPutI, t50, xpT, xpL, xpI, xpR, xpA, xpJ, xpO, xpZ, xInt, xN]
  have f2 := f01.trans g1
  have ik : ∀ c, xI s0 (f (13 + k)) c = xI s (f (13 + k)) c := fun c => by rw [f0.2.2.2.2.2.2.1 _ nk]
  have ik2 : ∀ c, xI s2 (f (13 + k)) c = xI s (f (13 + k)) c := fun c => by rw [f2.2.2.2.2.2.2.1 _ nk]
  have tk0 : xT s0 (f (13 + k)) = 7 := by rw [f0.1]; exact tk
  have tk2 : xT s2 (f (13 + k)) = 7 := by rw [f2.1]; exact tk
  have t52 : xT s2 (a 5) = 6 := (H.frE f2).t 5
  rw [v4] at e2 g2 g3 g4
  have hat := sL_at E (m.2.2 27) (m.2.1 28) (E.2 8 k - E.2 6 k) (E.2 6 k) 0 (fun _ => 0)
  have esp : E.2 9 k - E.2 6 k = (E.2 8 k - E.2 6 k) + (E.2 9 k - E.2 8 k) := by omega
  have esl := sL_split E (m.2.2 27) (m.2.1 28) (E.2 8 k - E.2 6 k) (E.2 9 k - E.2 8 k) (E.2 6 k) 0 (fun _ => 0)
  rw [← esp, show E.2 6 k + (E.2 8 k - E.2 6 k) = E.2 8 k by omega] at esl
  obtain ⟨A, hA⟩ : ∃ y, y = sL E (m.2.2 27) (m.2.1 28) (E.2 8 k - E.2 6 k) (E.2 6 k) 0 (fun _ => 0) := ⟨_, rfl⟩
  rw [← hA] at e2 g2 g3 g4 hat esl
  have pre : X_Reckoner_judge F s (a 5) (f 0) (f (13 + k)) = (if A.1 = 1 then some (3, s2) else if A.1 = 0 then ((X_Reckoner_follow F s2 (a 5) (f 0) (nI (E.2 8 k)) (nI (E.2 9 k))).bind fun q15 => some (q15.1, q15.2)) else some (A.1, s2)) := by
    have p1 : xPutI s (a 5) 5 3 (-1) = some (xT s, xL s, xUp (xI s) (a 5) 3 (-1), xR s, xA s, xJ s, xO s, xZ s) := by simp [xPutI, t5, xpT, xpL, xpI, xpR, xpA, xpJ, xpO, xpZ, xInt, xN]
    have p2 : xPutI (xT s, xL s, xUp (xI s) (a 5) 3 (-1), xR s, xA s, xJ s, xO s, xZ s) (a 5) 5 4 (-1) = some s0 := by rw [hs0]; simp [xPutI, t5, xpT, xpL, xpI, xpR, xpA, xpJ, xpO, xpZ, xInt, xN]
    unfold X_Reckoner_judge
    rw [p1, Option.bind_some, p2, Option.bind_some]
    simp [xGetI, tk0, ik, cR.2.1, cR.2.2.2.1, cR.2.2.2.2, xIs, t50, ef, e2, tk2, t52, ik2, xpT, xpL, xpI, xpR, xpA, xpJ, xpO, xpZ, xInt, xN]
  have hcode := sL_code E (m.2.2 27) (m.2.1 28) (E.2 8 k - E.2 6 k) (E.2 6 k) 0 (fun _ => 0)
  rw [← hA] at hcode
  rw [pre]
  unfold jd
  simp only [esl]
  rcases hcode with hq | hq | hq
  · -- the CONDITIONS before need hold
    obtain ⟨g5, g6⟩ := g4 hq
    rw [v5] at g5 g6
    rw [g5]
    rw [hq]
    have ar : A.2.1 = -1 ∧ A.2.2.1 = -1 := by
      have := sL_m1 E (m.2.2 27) (m.2.1 28) (E.2 8 k - E.2 6 k) (E.2 6 k) 0 (fun _ => 0)
      rw [← hA] at this
      exact this hq
    rw [ar.1] at g2
    rw [ar.2] at g3
    obtain ⟨s3, hs3⟩ : ∃ y : XS, y = (xT s2, xL s2, xUp (xI s2) (a 5) 2 0, xR s2, xA s2, xJ s2, xO s2, xZ s2) := ⟨_, rfl⟩
    have f3 : FrE a s2 s3 := by rw [hs3]; exact FrE.up s2 _ _ (fun c hc => xUp_ne _ _ _ hc) (fun c hc => rfl)
    have f23 := f2.trans f3
    have d3 : xI s3 (a 5) 3 = -1 := by rw [hs3]; simp [xUp, g2, xpT, xpL, xpI, xpR, xpA, xpJ, xpO, xpZ, xInt, xN]
    have d4 : xI s3 (a 5) 4 = -1 := by rw [hs3]; simp [xUp, g3, xpT, xpL, xpI, xpR, xpA, xpJ, xpO, xpZ, xInt, xN]
    have d2 : xI s3 (a 5) 2 = nI 0 := by rw [hs3]; simp [xUp, nIk0, xpT, xpL, xpI, xpR, xpA, xpJ, xpO, xpZ, xInt, xN]
    have R3 : RS s3 a (E.2 2 (E.2 8 k)) A.2.2.2.2.2 := by rw [v5]; exact ⟨d2, fun j hj => by omega⟩
    obtain ⟨s4, e4, q1, q2, q3, q4⟩ := follow_loop (F := F) (m := m) hr hw0 (to := E.2 9 k) (by omega) (E.2 9 k - E.2 8 k) (E.2 8 k) F s3 A.2.2.2.2.2 (by omega) (by omega) (H.frE f23) (K.frE f23) (hc.frE H K hr f23) (hf.frE H f23) R3 (by omega) d3 d4
    have ef2 : X_Reckoner_follow F s2 (a 5) (f 0) (nI (E.2 8 k)) (nI (E.2 9 k)) = X_Reckoner_follow_8 F F s3 (a 5) (f 0) (nI (E.2 9 k)) (nI (E.2 8 k)) := by
      rw [hs3]; simp [X_Reckoner_follow, xPutI, t52, xpT, xpL, xpI, xpR, xpA, xpJ, xpO, xpZ, xInt, xN]
    rw [v5] at e4 q2 q3
    have hat2 := sL_at E (m.2.2 27) (m.2.1 28) (E.2 9 k - E.2 8 k) (E.2 8 k) 0 A.2.2.2.2.2
    refine ⟨s4, ?_, f23.trans q1, ?_, ?_⟩
    · have hn : ¬ ((sL E (m.2.2 27) (m.2.1 28) (E.2 9 k - E.2 8 k) (E.2 8 k) 0 A.2.2.2.2.2).1 = 1 ∧ (sL E (m.2.2 27) (m.2.1 28) (E.2 9 k - E.2 8 k) (E.2 8 k) 0 A.2.2.2.2.2).2.2.2.1 < E.2 8 k) := fun h => by omega
      simp [ef2, e4, hn]
    · simp [q2]
    · simp [q3]
  · have h1 : A.2.2.2.1 < E.2 8 k := by
      have := hat.2.1 (by rw [hq]; decide)
      omega
    rw [hq]
    refine ⟨s2, ?_, f2, ?_, ?_⟩
    · simp [hq, h1]
    · simp [g2]
    · simp [g3]
  · rw [hq]
    refine ⟨s2, ?_, f2, ?_, ?_⟩
    · simp [hq]
    · simp [g2]
    · simp [g3]
