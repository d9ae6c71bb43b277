section BRULE
variable {F : Nat} {z rd yy : Nat} {aw ar rel nw : Nat} {L : List (Nat × Nat)} {E : Ed} {s : XS}
theorem fe_lt {n j : Nat} (h : z + 13 ≤ yy) (hj : j < 13 + n) : fe z yy j < yy + n := by
  by_cases c : j < 13
  · have hj' : j = 0 ∨ j = 1 ∨ j = 2 ∨ j = 3 ∨ j = 4 ∨ j = 5 ∨ j = 6 ∨ j = 7 ∨ j = 8 ∨ j = 9 ∨ j = 10 ∨ j = 11 ∨ j = 12 := by omega
    rcases hj' with e | e | e | e | e | e | e | e | e | e | e | e | e <;> subst e <;> simp only [fe] <;> omega
  · obtain ⟨k, rfl⟩ : ∃ k, j = 13 + k := ⟨j - 13, by omega⟩
    rw [fe_r]; omega
theorem rfE_lt {j k x : Nat} (h : rfE j k = some x) : j < 13 := by
  unfold rfE at h
  split at h <;> first | omega | cases h
theorem beginRule_eq (h : TR s z rd yy (E, aw, ar, rel, nw, L)) (h12 : E.1 4 ≤ 12) (h400 : E.1 2 ≤ 400) (v g : Nat) : ∃ x s2, X_Edition_beginRule F s z (nI v) = some (x, s2) ∧ Ow z rd yy s s2 ∧ (E.1 4 < 12 → x = 1 ∧ TR s2 z rd yy (bgR E v g, aw, ar, rel, nw, L)) ∧ (¬ E.1 4 < 12 → x = 0) := by
  obtain ⟨hs, h2, h3, hW⟩ := id h
  simp only at hs h2 h3 hW
  have lay := hs.2.2.2.2.2.2
  obtain ⟨e1, ⟨t8, r80, r81, r82, r83⟩, ⟨t9, r90, r91⟩, ⟨t10, l10⟩, ⟨t11, l11⟩, hZ0, hlt⟩ := id hs
  have et0 : xT s z = 2 := e1.t 0
  have er4 : xR s z 3 = some (z + 12) := e1.r 0 3 (q := 12)
  have er2 : xR s z 1 = some (z + 6) := e1.r 0 1 (q := 6)
  have et6 : xT s (z + 6) = 8 := e1.t 6
  have et12 : xT s (z + 12) = 46 := e1.t 12
  have el12 : xL s (z + 12) = 12 := e1.l 12
  obtain ⟨n, hn⟩ : ∃ n, n = E.1 4 := ⟨_, rfl⟩
  have hi : xI s z 4 = nI n := by rw [hn]; exact h2.1.2
  have hc : xI s (z + 6) 2 = nI (E.1 2) := h2.2.1.1
  rw [← hn] at hZ0 e1 h12 ⊢
  have a1 : ¬ nI n < 0 := nI_pos (by omega)
  have e12 : Int32.ofNat 12 = nI 12 := rfl
  by_cases c : n < 12
  · have a2 : nI n < nI 12 := nI_lt c (by decide)
    have a3 : (nI n).toNatClampNeg = n := nI_clamp (by omega)
    have a4 : ¬ 12 ≤ n := by omega
    obtain ⟨y, hy⟩ : ∃ y, y = yy + n := ⟨_, rfl⟩
    rw [← hy] at hZ0
    have n0 : z ≠ y := by omega
    have n1 : z + 6 ≠ y := by omega
    have n7 : z + 12 ≠ y := by omega
    obtain ⟨I2, hI2⟩ : ∃ I2, I2 = xUp (xUp (xUp (xUp (xUp (xUp (xUq (xI s) y (fun _ => 0)) y 0 (nI v)) y 1 (nI (E.1 2))) y 2 (nI v)) y 3 (nI (E.1 2))) y 4 (nI (E.1 2))) z 4 (nI (n + 1)) := ⟨_, rfl⟩
    have iy : ∀ k, k < 5 → I2 y k = if k = 0 then nI v else if k = 1 then nI (E.1 2) else if k = 2 then nI v else nI (E.1 2) := by
      intro k hk
      rw [hI2, xUp_ne _ _ _ (Ne.symm n0)]
      have : k = 0 ∨ k = 1 ∨ k = 2 ∨ k = 3 ∨ k = 4 := by omega
      rcases this with e | e | e | e | e <;> subst e <;> simp [xUp]
    have io : ∀ x, x ≠ y → x ≠ z → I2 x = xI s x := by
      intro x h1 h2
      rw [hI2, xUp_ne _ _ _ h2, xUp_ne _ _ _ h1, xUp_ne _ _ _ h1, xUp_ne _ _ _ h1, xUp_ne _ _ _ h1, xUp_ne _ _ _ h1, xUq_ne _ _ h1]
    have iz : ∀ k, I2 z k = if k = 4 then nI (n + 1) else xI s z k := by
      intro k
      rw [hI2, xUp_row]
      simp only
      by_cases ck : k = 4
      · simp [ck]
      · simp only [ck, if_false]
        rw [xUp_ne _ _ _ n0, xUp_ne _ _ _ n0, xUp_ne _ _ _ n0, xUp_ne _ _ _ n0, xUp_ne _ _ _ n0, xUq_ne _ _ n0]
    obtain ⟨s2, hs2⟩ : ∃ y2 : XS, y2 = (xUq (xT s) y 7, xL s, I2, xUq (xR s) y (fun _ => none), xA s, xJ s, xUp (xO s) (z + 12) n (some y), y + 1) := ⟨_, rfl⟩
    have T2 : xT s2 = xUq (xT s) y 7 := by rw [hs2]
    have L2 : xL s2 = xL s := by rw [hs2]
    have R2 : xR s2 = xUq (xR s) y (fun _ => none) := by rw [hs2]
    have A2 : xA s2 = xA s := by rw [hs2]
    have O2 : xO s2 = xUp (xO s) (z + 12) n (some y) := by rw [hs2]
    have Z2 : xZ s2 = y + 1 := by rw [hs2]
    have I22 : xI s2 = I2 := by rw [hs2]
    have J2 : xJ s2 = xJ s := by rw [hs2]
    have To : ∀ x, x ≠ y → xT s2 x = xT s x := fun x hx => by rw [T2, xUq_ne _ _ hx]
    have Ro : ∀ x, x ≠ y → xR s2 x = xR s x := fun x hx => by rw [R2, xUq_ne _ _ hx]
    have bR4 : (bgR E v g).1 4 = n + 1 := by simp [bgR, setS, setR, hn]
    have bRs : ∀ j, j ≠ 4 → (bgR E v g).1 j = E.1 j := fun j hj => by simp [bgR, setS, setR, hj]
    have bRr : ∀ j, j ≤ 4 → (bgR E v g).2 j = E.2 j := fun j hj => by
      have n5 : j ≠ 5 := by omega
      have n6 : j ≠ 6 := by omega
      have n7 : j ≠ 7 := by omega
      have n8 : j ≠ 8 := by omega
      have n9 : j ≠ 9 := by omega
      have n10 : j ≠ 10 := by omega
      simp [bgR, setS, setR, n5, n6, n7, n8, n9, n10]
    refine ⟨1, s2, ?_, ?_, fun _ => ⟨rfl, ?_, ?_, ?_, ?_⟩, fun q => absurd c q⟩
    · have x1 : X_Rule_init F (xNewO s 6) y (nI v) (nI (E.1 2)) = some (xUq (xT s) y 7, xL s, xUp (xUp (xUp (xUp (xUp (xUq (xI s) y (fun _ => 0)) y 0 (nI v)) y 1 (nI (E.1 2))) y 2 (nI v)) y 3 (nI (E.1 2))) y 4 (nI (E.1 2)), xUq (xR s) y (fun _ => none), xA s, xJ s, xO s, y + 1) := by
        simp [X_Rule_init, xNewO, hZ0, xPutI, xUq_self, xpT, xpL, xpI, xpR, xpA, xpJ, xpO, xpZ, xInt, xN]
      have q1 : xGetA (xNewO s 6) z 1 1 = some (z + 6) := by simp [xGetA, xNewO, hZ0, xUq_ne _ _ n0, et0, er2, xpT, xpL, xpI, xpR, xpA, xpJ, xpO, xpZ, xInt, xN]
      have q2 : xGetI (xNewO s 6) (z + 6) 7 2 = some (nI (E.1 2)) := by simp [xGetI, xNewO, hZ0, xUq_ne _ _ n1, et6, hc, xpT, xpL, xpI, xpR, xpA, xpJ, xpO, xpZ, xInt, xN]
      have t7 : xUq (xT s) y 7 (z + 12) = 46 := by rw [xUq_ne _ _ n7]; exact et12
      have ty : xUq (xT s) y 7 y = 7 := xUq_self _ _ _
      have tz : xUq (xT s) y 7 z = 2 := by rw [xUq_ne _ _ n0]; exact et0
      have iz5 : xUp (xUp (xUp (xUp (xUp (xUq (xI s) y (fun _ => 0)) y 0 (nI v)) y 1 (nI (E.1 2))) y 2 (nI v)) y 3 (nI (E.1 2))) y 4 (nI (E.1 2)) z 4 = nI n := by
        rw [xUp_ne _ _ _ n0, xUp_ne _ _ _ n0, xUp_ne _ _ _ n0, xUp_ne _ _ _ n0, xUp_ne _ _ _ n0, xUq_ne _ _ n0]; exact hi
      rw [hs2, hI2]
      simp only [X_Edition_beginRule, Option.bind_some]
      rw [hZ0]
      have g1 : xGetI s z 1 4 = some (nI n) := by simp [xGetI, et0, hi, xpT, xpL, xpI, xpR, xpA, xpJ, xpO, xpZ, xInt, xN]
      have g2 : xGetA s z 1 3 = some (z + 12) := by simp [xGetA, et0, er4, xpT, xpL, xpI, xpR, xpA, xpJ, xpO, xpZ, xInt, xN]
      have g3 : xLen s (z + 12) = some (nI 12) := by simp [xLen, et12, el12, e12]
      rw [g1, g2]
      simp only [Option.bind_some, g3, a1, if_false, a2, if_true, q1, q2, x1]
      simp [xStA, ty, t7, el12, a1, a3, a4, xGetI, tz, iz5, xPutI, nI_1, xpT, xpL, xpI, xpR, xpA, xpJ, xpO, xpZ, xInt, xN]
    · refine ⟨by rw [Z2, hZ0]; omega, fun c hc => ?_⟩
      have cy : c ≠ y := by omega
      refine ⟨⟨To c cy, by rw [L2], Ro c cy, by rw [J2], fun q => by rw [O2, xUp_ne _ _ _ q]⟩, fun q => ⟨?_, by rw [A2]⟩⟩
      rw [I22, io c cy q.1]
    · show TSh s2 z rd yy ((bgR E v g).1 4)
      rw [bR4]
      refine ⟨⟨fun j hj => ?_, fun j k x hx => ?_, fun k hk => ?_, by omega⟩, ?_, ?_, ?_, ?_, by rw [Z2]; omega, hlt⟩
      · by_cases cj : j < 13 + n
        · have hl := fe_lt hlt.1 cj
          rw [To _ (by omega), L2]
          exact e1.1 j cj
        · have ej : j = 13 + n := by omega
          subst ej
          rw [fe_r, ← hy, T2, xUq_self, tgE_rule]
          exact ⟨rfl, fun q => by omega⟩
      · have hj := rfE_lt hx
        have hl := fe_lt (n := n) hlt.1 (show j < 13 + n by omega)
        rw [Ro _ (by omega)]
        exact e1.2.1 j k x hx
      · show xO s2 (z + 12) k = _
        rw [fe_r, O2, xUp_row]
        by_cases ck : k = n
        · simp [ck, hy]
        · simp only [ck, if_false]
          have := e1.2.2.1 k (by omega)
          rw [fe_r] at this
          exact this
      · rw [To _ (show rd ≠ y by omega), Ro _ (show rd ≠ y by omega)]; exact ⟨t8, r80, r81, r82, r83⟩
      · rw [To _ (show rd + 1 ≠ y by omega), Ro _ (show rd + 1 ≠ y by omega)]; exact ⟨t9, r90, r91⟩
      · rw [To _ (show rd + 2 ≠ y by omega), L2]; exact ⟨t10, l10⟩
      · rw [To _ (show rd + 3 ≠ y by omega), L2]; exact ⟨t11, l11⟩
    · obtain ⟨d1, ⟨d2, d3⟩, ⟨d4, d5⟩, d6⟩ := h2
      refine ⟨?_, ⟨?_, fun i hi => ?_⟩, ⟨?_, fun t ht => ?_⟩, fun k hk => ?_⟩
      · show True ∧ xI s2 z 4 = nI ((bgR E v g).1 4)
        rw [I22, iz, bR4]
        exact ⟨trivial, by simp⟩
      · show xI s2 (z + 6) 2 = _
        rw [I22, io _ n1 (by omega), bRs 2 (by decide)]; exact d2
      · rw [bRs 2 (by decide)] at hi
        rw [bRr 0 (by decide), bRr 1 (by decide), A2]; exact d3 i hi
      · show xI s2 (z + 9) 2 = _
        rw [I22, io _ (show z + 9 ≠ y by omega) (by omega), bRs 3 (by decide)]; exact d4
      · rw [bRs 3 (by decide)] at ht
        rw [bRr 3 (by decide), bRr 4 (by decide), A2]; exact d5 t ht
      · rw [bR4] at hk
        rw [fe_r, I22]
        by_cases ck : k = n
        · subst ck
          rw [← hy, iy 0 (by decide), iy 1 (by decide), iy 2 (by decide), iy 3 (by decide), iy 4 (by decide)]
          simp [bgR, setS, setR, ← hn]
        · have hkE : ¬ k = E.1 4 := by omega
          rw [io _ (by omega) (by omega)]
          have q6 := d6 k (by omega)
          rw [fe_r] at q6
          simp [bgR, setS, setR, hkE]
          exact q6
    · unfold RD
      rw [I22, io _ (show rd ≠ y by omega) (by omega)]
      exact h3
    · refine ⟨?_, Wt.of (s := s) (by rw [A2]) (by rw [A2]) hW.2⟩
      rw [I22, io _ (show rd + 1 ≠ y by omega) (by omega)]; exact hW.1
  · have a2 : ¬ nI n < nI 12 := nI_nlt (by omega) (by omega)
    refine ⟨0, s, ?_, Ow.refl z rd yy s, fun q => absurd q c, fun _ => rfl⟩
    have g1 : xGetI s z 1 4 = some (nI n) := by simp [xGetI, et0, hi, xpT, xpL, xpI, xpR, xpA, xpJ, xpO, xpZ, xInt, xN]
    have g2 : xGetA s z 1 3 = some (z + 12) := by simp [xGetA, et0, er4, xpT, xpL, xpI, xpR, xpA, xpJ, xpO, xpZ, xInt, xN]
    have g3 : xLen s (z + 12) = some (nI 12) := by simp [xLen, et12, el12, e12]
    simp [X_Edition_beginRule, g1, a1, g2, g3, a2]
end BRULE
