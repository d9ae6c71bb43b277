/-! ALL RULES OF A DAY, BY THE REFERENCE -/
def oI : Option Nat → Int32
  | none => -1
  | some e => nI e
/-- the editions, as the reference has them -/
def EN (m : MS) (n : Nat) (Es : Nat → Ed) : Prop := m.1 3 = nI n ∧ n ≤ 6 ∧ ∀ e, e < n → NE m e (Es e) ∧ WE (Es e)
theorem EN.frN {m m2 : MS} {n : Nat} {Es : Nat → Ed} (h : EN m n Es) (g : FrN m m2) : EN m2 n Es := ⟨by rw [g.1 3 (by decide) (by decide)]; exact h.1, h.2.1, fun e he => ⟨(h.2.2 e he).1.frN g, (h.2.2 e he).2⟩⟩
section LOOKN
variable {F : Nat} {m : MS} {n : Nat} {Es : Nat → Ed}
theorem editionOf_loop (h : EN m n Es) (day : Int32) : ∀ (d k z : Nat), k + d = n → d < z → N_Mo_editionOf_4 F z m day (oI (eo Es day k)) (nI k) = some (oI (eo Es day n), m) := by
  have h6 := h.2.1
  intro d
  induction d with
  | zero =>
    intro k z hk hz
    obtain ⟨z, rfl⟩ : ∃ y, z = y + 1 := ⟨z - 1, by omega⟩
    have ek : k = n := by omega
    subst ek
    have b1 : nI k ≤ nI k := Int32.le_refl _
    simp [N_Mo_editionOf_4, BN_Mo_editionOf_4, h.1, b1]
  | succ d ih =>
    intro k z hk hz
    obtain ⟨z, rfl⟩ : ∃ y, z = y + 1 := ⟨z - 1, by omega⟩
    have i1 := ih (k + 1) z (by omega) (by omega)
    have b1 : ¬ nI n ≤ nI k := nI_ge (by omega) (by omega)
    have b2 : ¬ (nI k < 0 ∨ 6 ≤ (nI k).toNatClampNeg) := nI_in (by omega) (by decide)
    have b3 : (nI k).toNatClampNeg = k := nI_clamp (by omega)
    have q := (h.2.2 k (by omega)).1.1.1
    simp only [eo] at i1
    show BN_Mo_editionOf_4 F (N_Mo_editionOf_4 F z) m day (oI (eo Es day k)) (nI k) = _
    unfold BN_Mo_editionOf_4 N_Mo_editionOf_27
    rw [h.1, if_neg b1, if_neg b2, b3, q, nI_1]
    by_cases c : nI ((Es k).1 0) ≤ day
    · rw [if_pos c] at i1
      rw [if_neg (Int32.not_lt.mpr c)]
      exact i1
    · rw [if_neg c] at i1
      rw [if_pos (Int32.not_le.mp c)]
      exact i1
theorem editionOf_eq (h : EN m n Es) (hF : 6 < F) (day : Int32) : N_Mo_editionOf F m day = some (oI (eo Es day n), m) := by
  have := editionOf_loop (F := F) h day n 0 F (by omega) (by have := h.2.1; omega)
  rw [nIk0] at this
  exact this
/-- broken, open as they run along -/
def brk (o : Nat → Int32) (k : Nat) : Int32 := match fsto o 1 k with
  | some r => nI (r + 1)
  | none => 0
def opn (o : Nat → Int32) (k : Nat) : Int32 := match fsto o 2 k with
  | some _ => 1
  | none => 0
theorem opn_succ (o : Nat → Int32) (k : Nat) : opn o (k + 1) = if opn o k = 0 then (if o k = 2 then 1 else 0) else 1 := by
  unfold opn
  simp only [fsto]
  cases fsto o 2 k with
  | some r => simp
  | none => by_cases c : o k = 2 <;> simp [c]
theorem brk_succ (o : Nat → Int32) (k : Nat) (hk : k < 100) : brk o (k + 1) = if o k = 1 then (if brk o k = 0 then nI (k + 1) else brk o k) else brk o k := by
  unfold brk
  simp only [fsto]
  cases h : fsto o 1 k with
  | some r =>
    have hr := (fsto_some h).1
    have := nI_ne0 (n := r + 1) (by omega) (by omega)
    simp [this]
  | none => by_cases c : o k = 1 <;> simp [c]
theorem ans_eq (o : Nat → Int32) (k : Nat) (hk : k < 100) : ans o k = if brk o k ≤ 0 then (if opn o k = 0 then 0 else -1) else brk o k := by
  unfold ans brk opn
  cases h : fsto o 1 k with
  | some r =>
    have hr := (fsto_some h).1
    have := nI_nle (n := r + 1) (by omega) (by omega)
    simp [this]
  | none =>
    cases fsto o 2 k with
    | some r => simp
    | none => simp
/-- what an answer leaves -/
def FrA (keep : Int32) (m m2 : MS) : Prop := (∀ k, k ≠ 33 → k ≠ 34 → m2.1 k = m.1 k) ∧ (∀ k, (keep = 0 ∨ k ≠ 30 ∧ k ≠ 31 ∧ k ≠ 32) → m2.2.1 k = m.2.1 k) ∧ ∀ k, k ≠ 35 → m2.2.2 k = m.2.2 k
theorem FrA.refl (x : Int32) (m : MS) : FrA x m m := ⟨fun _ _ _ => rfl, fun _ _ => rfl, fun _ _ => rfl⟩
theorem FrA.trans {x : Int32} {m m2 m3 : MS} (h : FrA x m m2) (g : FrA x m2 m3) : FrA x m m3 := ⟨fun k a b => (g.1 k a b).trans (h.1 k a b), fun k a => (g.2.1 k a).trans (h.2.1 k a), fun k a => (g.2.2 k a).trans (h.2.2 k a)⟩
theorem FrN.a {m m2 : MS} (h : FrN m m2) (x : Int32) : FrA x m m2 := ⟨h.1, fun k _ => by rw [h.2.1], h.2.2⟩
theorem NE.of {m m2 : MS} {e : Nat} {E : Ed} (h : NE m e E) (g : ∀ k, k ≠ 30 ∧ k ≠ 31 ∧ k ≠ 32 → m2.2.1 k = m.2.1 k) : NE m2 e E := by
  unfold NE
  rw [g 4 (by decide), g 13 (by decide), g 10 (by decide), g 19 (by decide), g 20 (by decide), g 11 (by decide), g 12 (by decide), g 17 (by decide), g 14 (by decide), g 18 (by decide), g 15 (by decide), g 16 (by decide)]
  exact h
theorem EN.frA {m2 : MS} {x : Int32} (h : EN m n Es) (g : FrA x m m2) : EN m2 n Es := ⟨by rw [g.1 3 (by decide) (by decide)]; exact h.1, h.2.1, fun e he => ⟨(h.2.2 e he).1.of (fun k hk => g.2.1 k (Or.inr hk)), (h.2.2 e he).2⟩⟩
/-- what is kept of the rules below k -/
def KpN (m : MS) (k : Nat) (o : Nat → Int32 × Int32 × Int32) : Prop := ∀ r, r < k → m.2.1 30 r = (o r).1 ∧ ((o r).1 = 2 → m.2.1 31 r = (o r).2.1 ∧ m.2.1 32 r = (o r).2.2)
theorem answer_loop {e : Nat} (he : e < n) (m0 : MS) (keep : Int32) (hkp : keep = 0 ∨ keep = 1) (hF : 400 < F) : ∀ (d k z : Nat) (m : MS), k + d = (Es e).1 4 → d < z → EN m n Es → m.2.2 27 = m0.2.2 27 → m.2.1 28 = m0.2.1 28 → (keep = 1 → KpN m k (jd (Es e) (m0.2.2 27) (m0.2.1 28))) →
    ∃ m2, N_Mo_answer_24 F z m (nI e) keep (brk (fun r => (jd (Es e) (m0.2.2 27) (m0.2.1 28) r).1) k) (opn (fun r => (jd (Es e) (m0.2.2 27) (m0.2.1 28) r).1) k) (nI ((Es e).1 4)) (nI k) = some (ans (fun r => (jd (Es e) (m0.2.2 27) (m0.2.1 28) r).1) ((Es e).1 4), m2) ∧ FrA keep m m2 ∧ (keep = 1 → KpN m2 ((Es e).1 4) (jd (Es e) (m0.2.2 27) (m0.2.1 28))) := by
  intro d
  induction d with
  | zero =>
    intro k z m hk hz h hv hvt hkk
    obtain ⟨z, rfl⟩ : ∃ y, z = y + 1 := ⟨z - 1, by omega⟩
    have ek : k = (Es e).1 4 := by omega
    subst ek
    have h12 := (h.2.2 e he).2.2.2.2.1
    have b1 : nI ((Es e).1 4) ≤ nI ((Es e).1 4) := Int32.le_refl _
    refine ⟨m, ?_, FrA.refl _ m, hkk⟩
    rw [ans_eq _ _ (by omega)]
    simp only [N_Mo_answer_24, BN_Mo_answer_24, b1, if_true]
    by_cases c1 : brk (fun r => (jd (Es e) (m0.2.2 27) (m0.2.1 28) r).1) ((Es e).1 4) ≤ 0
    · by_cases c2 : opn (fun r => (jd (Es e) (m0.2.2 27) (m0.2.1 28) r).1) ((Es e).1 4) = 0 <;> simp [c1, c2]
    · simp [c1]
  | succ d ih =>
    intro k z m hk hz h hv hvt hkk
    obtain ⟨z, rfl⟩ : ∃ y, z = y + 1 := ⟨z - 1, by omega⟩
    obtain ⟨q1, q2⟩ := h.2.2 e he
    have h12 := q2.2.2.2.1
    have h6 := h.2.1
    obtain ⟨m2, e2, g2, l2⟩ := look_eq (F := F) (e := e) (k := k) (by omega) q1 q2 (by omega) hF
    rw [hv, hvt] at e2 l2
    have b1 : ¬ nI ((Es e).1 4) ≤ nI k := nI_ge (by omega) (by omega)
    have b2 : ¬ (nI k < 0 ∨ 12 ≤ (nI k).toNatClampNeg) := nI_in (by omega) (by decide)
    have b3 : (nI k).toNatClampNeg = k := nI_clamp (by omega)
    obtain ⟨o, ho⟩ : ∃ o, o = fun r => (jd (Es e) (m0.2.2 27) (m0.2.1 28) r).1 := ⟨_, rfl⟩
    have ok : (jd (Es e) (m0.2.2 27) (m0.2.1 28) k).1 = o k := by rw [ho]
    rw [ok] at e2 l2
    rw [← ho]
    have bs := brk_succ o k (by omega)
    have os := opn_succ o k
    -- the state behind the keeping
    obtain ⟨m3, hm3⟩ : ∃ y : MS, y = if keep = 0 then m2 else sStI (sStI (sStI m2 30 k (o k)) 31 k (m2.1 33)) 32 k (m2.1 34) := ⟨_, rfl⟩
    have f3 : FrA keep m m3 := by
      rcases hkp with rfl | rfl
      · rw [hm3, if_pos rfl]; exact g2.a 0
      · rw [hm3, if_neg (by decide)]
        refine (g2.a 1).trans ⟨fun _ _ _ => rfl, fun c hc => ?_, fun _ _ => rfl⟩
        obtain ⟨c0, c1, c2⟩ := hc.resolve_left (by decide)
        simp [sStI, c0, c1, c2]
    have K3 : keep = 1 → KpN m3 (k + 1) (jd (Es e) (m0.2.2 27) (m0.2.1 28)) := by
      intro h1
      subst h1
      have K0 := hkk rfl
      rw [hm3, if_neg (by decide)]
      intro r hr
      by_cases er : r = k
      · subst er
        refine ⟨?_, fun hq => ?_⟩
        · simp [sStI, upd, ok]
        · rw [ok] at hq
          have := l2 hq
          simp [sStI, upd, this]
      · obtain ⟨k1, k2⟩ := K0 r (by omega)
        have e30 : m2.2.1 = m.2.1 := g2.2.1
        simp [sStI, upd, er, e30, k1]
        exact k2
    have tail : ∀ x y : Int32, N_Mo_answer_75 F (N_Mo_answer_24 F z) m2 (nI e) keep x (nI ((Es e).1 4)) (nI k) (o k) y = N_Mo_answer_24 F z m3 (nI e) keep x y (nI ((Es e).1 4)) (nI (k + 1)) := by
      intro x y
      unfold N_Mo_answer_75 N_Mo_answer_112
      rcases hkp with rfl | rfl
      · rw [hm3, if_pos rfl, if_pos rfl, nI_1]
      · have n10 : ¬ (1 : Int32) = 0 := by decide
        rw [b3] at b2
        rw [hm3, if_neg n10, if_neg n10, b3, if_neg b2, Option.bind_some, if_neg b2, Option.bind_some, if_neg b2, Option.bind_some, nI_1]
        rfl
    have e58 : ∀ x : Int32, N_Mo_answer_58 F (N_Mo_answer_24 F z) m2 (nI e) keep (opn o k) (nI ((Es e).1 4)) (nI k) (o k) x = N_Mo_answer_24 F z m3 (nI e) keep x (opn o (k + 1)) (nI ((Es e).1 4)) (nI (k + 1)) := by
      intro x
      unfold N_Mo_answer_58 N_Mo_answer_70
      rw [os, tail, tail]
      by_cases c1 : opn o k = 0
      · by_cases c2 : o k = 2 <;> simp [c1, c2]
      · simp [c1]
    obtain ⟨m4, e4, g4, K4⟩ := ih (k + 1) z m3 (by omega) (by omega) (h.frA f3) ((f3.2.2 27 (by decide)).trans hv) ((f3.2.1 28 (Or.inr (by decide))).trans hvt) K3
    rw [← ho] at e4
    refine ⟨m4, ?_, f3.trans g4, K4⟩
    rw [← e4, bs]
    show BN_Mo_answer_24 F (N_Mo_answer_24 F z) m (nI e) keep (brk o k) (opn o k) (nI ((Es e).1 4)) (nI k) = _
    unfold BN_Mo_answer_24 N_Mo_answer_57
    rw [if_neg b1, e2, Option.bind_some]
    simp only [e58]
    by_cases c1 : o k = 1
    · by_cases c2 : brk o k = 0
      · simp [c1, c2, nI_1]
      · simp [c1, c2]
    · simp [c1]
theorem answer_eq (h : EN m n Es) (day : Int32) (keep : Int32) (hkp : keep = 0 ∨ keep = 1) (hF : 400 < F) : ∃ m2, N_Mo_answer F m (oI (eo Es day n)) keep = some (la2 Es m (eo Es day n), m2) ∧ FrA keep m m2 ∧ (keep = 1 → KpN m2 (lc2 Es (eo Es day n)) (fun r => ((lf2 Es m (eo Es day n) r).1, (lf2 Es m (eo Es day n) r).2.1, (lf2 Es m (eo Es day n) r).2.2.1))) := by
  have h6 := h.2.1
  cases he : eo Es day n with
  | none =>
    refine ⟨m, ?_, FrA.refl _ m, fun _ r hr => by simp [lc2] at hr⟩
    obtain ⟨z, rfl⟩ : ∃ y, F = y + 1 := ⟨F - 1, by omega⟩
    have b : ¬ (0 : Int32) ≤ -1 := by decide
    simp [N_Mo_answer, oI, b, N_Mo_answer_19, N_Mo_answer_24, BN_Mo_answer_24, la2]
  | some e =>
    have hen := eo_lt he
    obtain ⟨q1, q2⟩ := h.2.2 e hen
    have h12 := q2.2.2.2.1
    obtain ⟨m2, e2, g2, K2⟩ := answer_loop (F := F) (m0 := m) hen keep hkp hF ((Es e).1 4) 0 F m (by omega) (by omega) h rfl rfl (fun _ r hr => by omega)
    refine ⟨m2, ?_, g2, K2⟩
    have b1 : 0 ≤ nI e := nI_pos' (by omega)
    have b2 : ¬ (nI e < 0 ∨ 6 ≤ (nI e).toNatClampNeg) := nI_in (by omega) (by decide)
    have b3 : (nI e).toNatClampNeg = e := nI_clamp (by omega)
    show N_Mo_answer F m (nI e) keep = some (ans _ _, m2)
    unfold N_Mo_answer N_Mo_answer_19
    rw [if_pos b1, if_neg b2, b3, q1.1.2.1]
    exact e2
end LOOKN
