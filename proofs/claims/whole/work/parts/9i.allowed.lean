/-! ALLOWED -/
section ALLOWED
variable {F : Nat} {s : XS} {a : Nat → Nat} {m : MS} {n : Nat} {rc : Nat → Nat} {Es : Nat → Ed} {nt : Nat} {v : Nat → Nat} {B : Nat}
/-- with the fact j set to x: told, both sides -/
theorem FrR.facts (s : XS) (a : Nat → Nat) (A2 : Nat → Nat → Int32) (J2 : Nat → Nat → Int64) (h1 : ∀ c, c ≠ a 4 → A2 c = xA s c) (h2 : ∀ c, c ≠ a 3 → J2 c = xJ s c) : FrR a s (xT s, xL s, xI s, xR s, A2, J2, xO s, xZ s) [] [4] [3] := ⟨rfl, rfl, rfl, rfl, rfl, fun _ _ => rfl, fun c hc => h1 c (fun e => hc (by simp [e])), fun c hc => h2 c (fun e => hc (by simp [e]))⟩
theorem FrM.facts (m : MS) (j : Nat) (x : Int64) (b : Int32) : FrM m (sStI (sStL m 27 j x) 28 j b) [] [28] [27] := ⟨fun _ _ => rfl, fun k hk => by simp at hk; simp [sStI, sStL, hk], fun k hk => by simp at hk; simp [sStI, sStL, hk]⟩
/-- everything but the facts -/
def Inv0 (s : XS) (a : Nat → Nat) (m : MS) (n : Nat) (rc : Nat → Nat) (Es : Nat → Ed) (nt : Nat) (v : Nat → Nat) (B : Nat) : Prop :=
  Sh s a n rc ∧ SimT s a m nt ∧ SimH s a m v B ∧ SimW s a m ∧ EB s a m n Es rc ∧ SimL s a m n Es ∧ ∀ e, e < n → WdE s (fun j => a (eR e j)) m e (Es e)
theorem Inv0.fr {s2 : XS} {m2 : MS} {ob ar lj li la ll : List Nat} (I : Inv0 s a m n rc Es nt v B) (g : FrR a s s2 ob ar lj) (gm : FrM m m2 li la ll) (c : (okT ob ar li la && okH lj ll && okW ob ar li la && okB ob ar li la && okL ob ar li la) = true) : Inv0 s2 a m2 n rc Es nt v B := by
  simp only [Bool.and_eq_true] at c
  obtain ⟨⟨⟨⟨c1, c2⟩, c3⟩, c4⟩, c5⟩ := c
  obtain ⟨H, h1, h3, h4, h5, h6, h7⟩ := I
  exact ⟨H.frR g, h1.fr H g gm c1, h3.fr H g gm c2, h4.fr H g gm c3, h5.fr H g gm c4, h6.fr H g gm c5, fun e he => (h7 e he).fr H he g gm c4⟩
/-- the told bit alone may differ: the facts but fact j, and fact j told on the reference's side -/
theorem allowed_loop {day : Int32} {j : Nat} (hj : j < 20) (had : Int64) (was : Int32) (hwas : was = 0 ∨ was = 1) (hF : 400 < F) : ∀ (d z : Nat) (found : Int32) (s : XS) (m : MS), d ≤ 21 → d < z → Inv0 s a m n rc Es nt v B → (∀ i, i < 20 → i ≠ j → xJ s (a 3) i = m.2.2 27 i ∧ xA s (a 4) i = m.2.1 28 i ∧ (xA s (a 4) i = 0 ∨ xA s (a 4) i = 1)) → m.2.1 28 j = 1 → (found = -1 ∨ ∃ t, t < 100 ∧ found = nI t) →
    ∃ r s2 m2, X_LT_allowed_49 F z s (a 0) day (nI j) was had found (nI d + (-1)) = some (r, s2) ∧ N_Mo_allowed_56 F z m day (nI j) had was found (nI d + (-1)) = some (r, m2) ∧ Inv s2 a m2 n rc Es nt v B := by
  have hc : (nI j).toNatClampNeg = j := nI_clamp (by omega)
  have b1 : ¬ nI j < 0 := nI_pos (by omega)
  have b2 : ¬ 20 ≤ j := by omega
  -- the end
  have fin : ∀ (found : Int32) (s : XS) (m : MS), Inv0 s a m n rc Es nt v B → (∀ i, i < 20 → i ≠ j → xJ s (a 3) i = m.2.2 27 i ∧ xA s (a 4) i = m.2.1 28 i ∧ (xA s (a 4) i = 0 ∨ xA s (a 4) i = 1)) → ∃ r s2 m2, X_LT_allowed_94 F s (a 0) (nI j) was had found = some (r, s2) ∧ N_Mo_allowed_103 F m (nI j) had was found = some (r, m2) ∧ Inv s2 a m2 n rc Es nt v B := by
    intro found s m I hf
    have H := I.1
    have t0 : xT s (a 0) = 12 := H.t 0
    have r0_0 : xR s (a 0) 0 = some (a 1) := H.r 0 0
    have r0_2 : xR s (a 0) 2 = some (a 26) := H.r 0 2
    have r0_3 : xR s (a 0) 3 = some (a 34) := H.r 0 3
    have r0_4 : xR s (a 0) 4 = some (a 2) := H.r 0 4
    have r0_5 : xR s (a 0) 5 = some (a 5) := H.r 0 5
    have r0_6 : xR s (a 0) 6 = some (a 7) := H.r 0 6
    have r0_7 : xR s (a 0) 7 = some (a 12) := H.r 0 7
    have r0_8 : xR s (a 0) 8 = some (a 17) := H.r 0 8
    have r0_9 : xR s (a 0) 9 = some (a 19) := H.r 0 9
    have t2 : xT s (a 2) = 3 := H.t 2
    have r2_0 : xR s (a 2) 0 = some (a 3) := H.r 2 0
    have r2_1 : xR s (a 2) 1 = some (a 4) := H.r 2 1
    have wb : was &&& 1 = was := by rcases hwas with rfl | rfl <;> decide
    have ep := X_Facts_put_in (F := F) H hj had was
    rw [wb] at ep
    obtain ⟨s2, hs2⟩ : ∃ y : XS, y = (xT s, xL s, xI s, xR s, xUp (xA s) (a 4) j was, xUp (xJ s) (a 3) j had, xO s, xZ s) := ⟨_, rfl⟩
    rw [← hs2] at ep
    have g : FrR a s s2 [] [4] [3] := by rw [hs2]; exact FrR.facts s a _ _ (fun c hc => xUp_ne _ _ _ hc) (fun c hc => xUp_ne _ _ _ hc)
    have gm := FrM.facts m j had was
    have I2 := I.fr g gm (by decide)
    obtain ⟨q0, q1, q3, q4, q5, q6, q7⟩ := I2
    refine ⟨found, s2, sStI (sStL m 27 j had) 28 j was, ?_, ?_, q0, q1, ?_, q3, q4, q5, q6, q7⟩
    · simp [X_LT_allowed_94, xGetA, t0, r0_4, xIs, t2, ep, xpT, xpL, xpI, xpR, xpA, xpJ, xpO, xpZ, xInt, xN]
    · simp [N_Mo_allowed_103, b1, hc, b2, wb]
    · intro i hi
      rw [hs2]
      by_cases e : i = j
      · subst e
        simp [xUp, sStI, sStL, upd, vp_updL, hwas, xpT, xpL, xpI, xpR, xpA, xpJ, xpO, xpZ, xInt, xN]
      · obtain ⟨f1, f2, f3⟩ := hf i hi e
        simp [xUp, sStI, sStL, upd, vp_updL, e, f1, f2, xpT, xpL, xpI, xpR, xpA, xpJ, xpO, xpZ, xInt, xN]
        rw [f2] at f3
        exact f3
  intro d
  induction d with
  | zero =>
    intro z found s m hd hz I hf h28 hfd
    obtain ⟨z, rfl⟩ : ∃ y, z = y + 1 := ⟨z - 1, by omega⟩
    have e0 : nI 0 + (-1) < 0 := by decide
    obtain ⟨r, s2, m2, x1, x2, x3⟩ := fin found s m I hf
    refine ⟨r, s2, m2, ?_, ?_, x3⟩
    · show BX_LT_allowed_49 F _ s (a 0) day (nI j) was had found (nI 0 + (-1)) = _
      unfold BX_LT_allowed_49
      rw [if_pos e0]; exact x1
    · show BN_Mo_allowed_56 F _ m day (nI j) had was found (nI 0 + (-1)) = _
      unfold BN_Mo_allowed_56
      rw [if_pos e0]; exact x2
  | succ d ih =>
    intro z found s m hd hz I hf h28 hfd
    obtain ⟨z, rfl⟩ : ∃ y, z = y + 1 := ⟨z - 1, by omega⟩
    rw [nI_m1]
    have c0 : ¬ nI d < 0 := nI_pos (by omega)
    rcases hfd with hfd | ⟨t, ht, hfd⟩
    · subst hfd
      have H := I.1
      have t0 : xT s (a 0) = 12 := H.t 0
      have r0_0 : xR s (a 0) 0 = some (a 1) := H.r 0 0
      have r0_2 : xR s (a 0) 2 = some (a 26) := H.r 0 2
      have r0_3 : xR s (a 0) 3 = some (a 34) := H.r 0 3
      have r0_4 : xR s (a 0) 4 = some (a 2) := H.r 0 4
      have r0_5 : xR s (a 0) 5 = some (a 5) := H.r 0 5
      have r0_6 : xR s (a 0) 6 = some (a 7) := H.r 0 6
      have r0_7 : xR s (a 0) 7 = some (a 12) := H.r 0 7
      have r0_8 : xR s (a 0) 8 = some (a 17) := H.r 0 8
      have r0_9 : xR s (a 0) 9 = some (a 19) := H.r 0 9
      have t2 : xT s (a 2) = 3 := H.t 2
      have r2_0 : xR s (a 2) 0 = some (a 3) := H.r 2 0
      have r2_1 : xR s (a 2) 1 = some (a 4) := H.r 2 1
      have t12 : xT s (a 12) = 4 := H.t 12
      have r12_0 : xR s (a 12) 0 = some (a 13) := H.r 12 0
      have r12_1 : xR s (a 12) 1 = some (a 14) := H.r 12 1
      have r12_2 : xR s (a 12) 2 = some (a 15) := H.r 12 2
      have r12_3 : xR s (a 12) 3 = some (a 16) := H.r 12 3
      have ep := X_Facts_put_in (F := F) H hj (nI d).toInt64 1
      rw [show (1 : Int32) &&& 1 = 1 from rfl] at ep
      obtain ⟨s1, hs1⟩ : ∃ y : XS, y = (xT s, xL s, xI s, xR s, xUp (xA s) (a 4) j 1, xUp (xJ s) (a 3) j (nI d).toInt64, xO s, xZ s) := ⟨_, rfl⟩
      rw [← hs1] at ep
      have g1 : FrR a s s1 [] [4] [3] := by rw [hs1]; exact FrR.facts s a _ _ (fun c hc => xUp_ne _ _ _ hc) (fun c hc => xUp_ne _ _ _ hc)
      have gm1 : FrM m (sStL m 27 j (nI d).toInt64) [] [28] [27] := ⟨fun _ _ => rfl, fun _ _ => rfl, fun k hk => by simp at hk; simp [sStL, hk]⟩
      have I1 := I.fr g1 gm1 (by decide)
      have H1 := I1.1
      have F1 : SimF s1 a (sStL m 27 j (nI d).toInt64) := by
        intro i hi
        rw [hs1]
        by_cases e : i = j
        · subst e
          simp [xUp, sStL, vp_updL, h28, xpT, xpL, xpI, xpR, xpA, xpJ, xpO, xpZ, xInt, xN]
        · obtain ⟨f1, f2, f3⟩ := hf i hi e
          simp [xUp, sStL, vp_updL, e, f1, f2, xpT, xpL, xpI, xpR, xpA, xpJ, xpO, xpZ, xInt, xN]
          rw [f2] at f3
          exact f3
      have B1 := I1.2.2.2.2.1
      obtain ⟨s2, e2, g2, A2⟩ := lookX (F := F) H1 B1 F1 (b := 12) (Or.inr rfl) hF day
      have en := B1.en H1
      have eE := editionOf_eq (F := F) en (by omega) day
      obtain ⟨m2, e3, g3, -⟩ := answer_eq (F := F) en day 0 (Or.inl rfl) hF
      have gm2 := g3.m0
      have gg := frG_R (a := a) 12 g2
      have I2 := I1.fr gg gm2 (by decide)
      have F2 := F1.fr H1 gg gm2 (by decide)
      have t01 : xT s1 (a 0) = 12 := H1.t 0
      have r01 : xR s1 (a 0) 7 = some (a 12) := H1.r 0 7
      have m28 : m2.2.1 28 j = 1 := by rw [gm2.2.1 28 (by simp)]; exact h28
      obtain ⟨L, hL⟩ : ∃ L, L = la2 Es (sStL m 27 j (nI d).toInt64) (eo Es day n) := ⟨_, rfl⟩
      rw [← hL] at e2 e3
      obtain ⟨r, s4, m4, x1, x2, x3⟩ := ih z (if L = 0 then nI d else -1) s2 m2 (by omega) (by omega) I2 (fun i hi _ => F2 i hi) m28 (by
        by_cases hz : L = 0
        · exact Or.inr ⟨d, by omega, by simp [hz]⟩
        · exact Or.inl (by simp [hz]))
      refine ⟨r, s4, m4, ?_, ?_, x3⟩
      · show BX_LT_allowed_49 F (X_LT_allowed_49 F z) s (a 0) day (nI j) was had (-1) (nI d) = _
        unfold BX_LT_allowed_49 X_LT_allowed_88
        rw [← x1]
        by_cases hz : L = 0
        · simp [c0, xGetA, t0, r0_4, xIs, t2, ep, t01, r01, e2, hz, xpT, xpL, xpI, xpR, xpA, xpJ, xpO, xpZ, xInt, xN]
        · simp [c0, xGetA, t0, r0_4, xIs, t2, ep, t01, r01, e2, hz, xpT, xpL, xpI, xpR, xpA, xpJ, xpO, xpZ, xInt, xN]
      · show BN_Mo_allowed_56 F (N_Mo_allowed_56 F z) m day (nI j) had was (-1) (nI d) = _
        unfold BN_Mo_allowed_56 N_Mo_allowed_95
        rw [← x2]
        have n1 : ¬ (0 : Int32) ≤ -1 := by decide
        by_cases hz : L = 0
        · simp [c0, n1, b1, hc, b2, eE, e3, hz]
        · simp [c0, n1, b1, hc, b2, eE, e3, hz]
    · have f1 : ¬ found = -1 := by rw [hfd]; exact nI_ne_m1 (by omega)
      have f2 : 0 ≤ found := by rw [hfd]; exact nI_pos' (by omega)
      obtain ⟨r, s2, m2, x1, x2, x3⟩ := fin found s m I hf
      refine ⟨r, s2, m2, ?_, ?_, x3⟩
      · show BX_LT_allowed_49 F _ s (a 0) day (nI j) was had found (nI d) = _
        unfold BX_LT_allowed_49
        rw [if_neg c0, if_neg f1]; exact x1
      · show BN_Mo_allowed_56 F _ m day (nI j) had was found (nI d) = _
        unfold BN_Mo_allowed_56
        rw [if_neg c0, if_pos f2]; exact x2
theorem allowed_both (I : Inv s a m n rc Es nt v B) (hF : 400 < F) (day name most : Int32) : ∃ r s2 m2, X_LT_allowed F s (a 0) day name most = some (r, s2) ∧ N_Mo_allowed F m day name most = some (r, m2) ∧ Inv s2 a m2 n rc Es nt v B := by
  have I2 := I.code 0
  obtain ⟨H, h1, h2, h3, h4, h5, h6, h7⟩ := I2
  have t0 : xT s (a 0) = 12 := H.t 0
  have r0_0 : xR s (a 0) 0 = some (a 1) := H.r 0 0
  have r0_2 : xR s (a 0) 2 = some (a 26) := H.r 0 2
  have r0_3 : xR s (a 0) 3 = some (a 34) := H.r 0 3
  have r0_4 : xR s (a 0) 4 = some (a 2) := H.r 0 4
  have r0_5 : xR s (a 0) 5 = some (a 5) := H.r 0 5
  have r0_6 : xR s (a 0) 6 = some (a 7) := H.r 0 6
  have r0_7 : xR s (a 0) 7 = some (a 12) := H.r 0 7
  have r0_8 : xR s (a 0) 8 = some (a 17) := H.r 0 8
  have r0_9 : xR s (a 0) 9 = some (a 19) := H.r 0 9
  have t2 : xT s (a 2) = 3 := H.t 2
  have r2_0 : xR s (a 2) 0 = some (a 3) := H.r 2 0
  have r2_1 : xR s (a 2) 1 = some (a 4) := H.r 2 1
  by_cases hx : name < 0 ∨ 20 ≤ name
  · refine ⟨-1, s, sPut m 0 0, ?_, ?_, I.code 0⟩
    · simp [X_LT_allowed, xGetA, t0, r0_4, xIs, t2, X_Facts_has_eq H, hx, xpT, xpL, xpI, xpR, xpA, xpJ, xpO, xpZ, xInt, xN]
    · by_cases c : name < 0
      · simp [N_Mo_allowed, c]
      · have c2 : (19 : Int32) < name := by
          have := hx.resolve_left c
          rw [Int32.lt_iff_toInt_lt]
          rw [Int32.le_iff_toInt_le] at this
          have e1 : (19 : Int32).toInt = 19 := by decide
          have e2 : (20 : Int32).toInt = 20 := by decide
          omega
        simp [N_Mo_allowed, c, c2]
  · obtain ⟨j, hj, rfl⟩ : ∃ j : Nat, j < 20 ∧ name = nI j := by
      rcases ix20 name with h | h | h
      · exact absurd (Or.inl h) hx
      · exact absurd (Or.inr h) hx
      · exact h
    have hc : (nI j).toNatClampNeg = j := nI_clamp (by omega)
    have b1 : ¬ nI j < 0 := nI_pos (by omega)
    have b2 : ¬ 20 ≤ j := by omega
    have b3 : ¬ (19 : Int32) < nI j := nI_nlt (b := j) (a := 19) (by omega) (by decide)
    have b4 : ¬ (20 : Int32) ≤ nI j := nI_ge (b := 20) hj (by decide)
    rcases pk_ix most (n := 21) (by decide) with c | c | ⟨d, hd, rfl⟩
    · refine ⟨-1, s, sPut m 0 0, ?_, ?_, I.code 0⟩
      · simp [X_LT_allowed, xGetA, t0, r0_4, xIs, t2, X_Facts_has_eq H, b1, b4, c, xpT, xpL, xpI, xpR, xpA, xpJ, xpO, xpZ, xInt, xN]
      · simp [N_Mo_allowed, b1, b3, c]
    · have c1 : ¬ most ≤ 20 := by
        intro q
        have := Int32.le_trans c q
        exact absurd this (by decide)
      refine ⟨-1, s, sPut m 0 0, ?_, ?_, I.code 0⟩
      · by_cases c0 : most < 0
        · simp [X_LT_allowed, xGetA, t0, r0_4, xIs, t2, X_Facts_has_eq H, b1, b4, c0, xpT, xpL, xpI, xpR, xpA, xpJ, xpO, xpZ, xInt, xN]
        · simp [X_LT_allowed, xGetA, t0, r0_4, xIs, t2, X_Facts_has_eq H, b1, b4, c0, c1, xpT, xpL, xpI, xpR, xpA, xpJ, xpO, xpZ, xInt, xN]
      · by_cases c0 : most < 0
        · simp [N_Mo_allowed, b1, b3, c0]
        · simp [N_Mo_allowed, b1, b3, c0, c1]
    · have c0 : ¬ nI d < 0 := nI_pos (by omega)
      have c1 : nI d ≤ 20 := nI_le (b := 20) (by omega) (by decide)
      obtain ⟨f1, f2, f3⟩ := h2 j hj
      have e1 := X_Facts_isTold_eq (F := F) H hj
      have e2 := X_Facts_valueOf_eq (F := F) H hj
      have e3 : (if xA s (a 4) j = 0 then (0 : Int32) else 1) = m.2.1 28 j := by
        have f2' : xA s (a 4) j = m.2.1 28 j := f2
        rw [← f2']
        rcases f3 with h | h <;> simp [h]
      have f1' : xJ s (a 3) j = m.2.2 27 j := f1
      rw [e3] at e1
      rw [f1'] at e2
      have I0 : Inv0 s a (sPut m 0 0) n rc Es nt v B := ⟨H, h1, h3, h4, h5, h6, h7⟩
      have gm : FrM (sPut m 0 0) (sStI (sPut m 0 0) 28 j 1) [] [28] [] := ⟨fun _ _ => rfl, fun k hk => by simp at hk; simp [sStI, hk], fun _ _ => rfl⟩
      have I1 := I0.fr (FrR.refl a s [] [] []) gm (by decide)
      have hwas : m.2.1 28 j = 0 ∨ m.2.1 28 j = 1 := by
        have f2' : xA s (a 4) j = m.2.1 28 j := f2
        rw [← f2']; exact f3
      obtain ⟨r, s2, m2, x1, x2, x3⟩ := allowed_loop (F := F) (day := day) hj (m.2.2 27 j) (m.2.1 28 j) hwas hF (d + 1) F (-1) s _ (by omega) (by omega) I1 (fun i hi e => by
        obtain ⟨p1, p2, p3⟩ := h2 i hi
        refine ⟨p1, ?_, p3⟩
        simp [sStI, upd, e]
        exact p2) (by simp [sStI, upd]) (Or.inl rfl)
      rw [nI_m1] at x1 x2
      refine ⟨r, s2, m2, ?_, ?_, x3⟩
      · simp [X_LT_allowed, xGetA, t0, r0_4, xIs, t2, X_Facts_has_eq H, b1, b4, c0, c1, e1, e2, x1, xpT, xpL, xpI, xpR, xpA, xpJ, xpO, xpZ, xInt, xN]
      · rw [← x2]
        simp [N_Mo_allowed, b1, b3, c0, c1, hc, b2]
        rfl
end ALLOWED
