/-! THE REFERENCE's OBJECT AS A RECORD OF FUNCTIONS: its ints by field, its arrays by field -/
abbrev MS : Type := (Nat → Int32) × (Nat → Nat → Int32) × (Nat → Nat → Int64)
def mInt (k : Nat) : Bool := k == 0 || k == 2 || k == 3 || k == 21 || k == 22 || k == 23 || k == 24 || k == 29 || k == 33 || k == 34 || k == 37
def mLen (k : Nat) : Nat := match k with
  | 1 => 800
  | 4 => 6
  | 5 => 4800
  | 6 => 2400
  | 7 => 2400
  | 8 => 2400
  | 9 => 6
  | 10 => 6
  | 11 => 48
  | 12 => 480
  | 13 => 6
  | 14 => 72
  | 15 => 72
  | 16 => 72
  | 17 => 72
  | 18 => 72
  | 19 => 2400
  | 20 => 2400
  | 25 => 500
  | 26 => 500
  | 27 => 20
  | 28 => 20
  | 30 => 12
  | 31 => 12
  | 32 => 12
  | 35 => 500
  | 36 => 1600
  | 38 => 80
  | _ => 0
/-- 1 int, 2 byte, 3 boolean, 4 long -/
def mArr (k : Nat) : Nat := match k with
  | 1 => 2
  | 4 => 1
  | 5 => 2
  | 6 => 1
  | 7 => 1
  | 8 => 1
  | 9 => 1
  | 10 => 1
  | 11 => 1
  | 12 => 1
  | 13 => 1
  | 14 => 1
  | 15 => 1
  | 16 => 1
  | 17 => 1
  | 18 => 1
  | 19 => 1
  | 20 => 1
  | 25 => 1
  | 26 => 1
  | 27 => 4
  | 28 => 3
  | 30 => 1
  | 31 => 1
  | 32 => 1
  | 35 => 4
  | 36 => 2
  | 38 => 4
  | _ => 0
def mTy (k : Nat) : FieldType := match mArr k with
  | 1 => .int
  | 2 => .byte
  | 3 => .boolean
  | _ => .long
def mFs (ad : Nat → Nat) (f : Nat → Int32) : List Value := (List.range 39).map fun k => if mInt k then .int (f k) else .ref (ad k)
def sPut (s : MS) (k : Nat) (v : Int32) : MS := (upd s.1 k v, s.2)
def sStI (s : MS) (k i : Nat) (x : Int32) : MS := (s.1, (fun j => if j = k then upd (s.2.1 k) i x else s.2.1 j), s.2.2)
def sStL (s : MS) (k i : Nat) (x : Int64) : MS := (s.1, s.2.1, fun j => if j = k then vp_updL (s.2.2 k) i x else s.2.2 j)
def RepM (ad : Nat → Nat) (m : Nat) (h : hH) (s : MS) : Prop := h.2 m = some (.inl (12, mFs ad s.1)) ∧ (∀ k, mArr k = 1 ∨ mArr k = 2 ∨ mArr k = 3 → h.2 (ad k) = some (.inr (mTy k, mLen k, .inl (s.2.1 k)))) ∧ (∀ k, mArr k = 4 → h.2 (ad k) = some (.inr (.long, mLen k, .inr (.inl (s.2.2 k))))) ∧ ∀ j k, mArr j ≠ 0 → mArr k ≠ 0 → ad j = ad k → j = k
theorem mFs_at (ad : Nat → Nat) (f : Nat → Int32) {k : Nat} (hk : k < 39) : (mFs ad f)[k]? = some (if mInt k then .int (f k) else .ref (ad k)) := by
  unfold mFs
  rw [List.getElem?_map, List.getElem?_range hk]
  rfl
theorem mFs_len (ad : Nat → Nat) (f : Nat → Int32) : (mFs ad f).length = 39 := by simp [mFs]
theorem mFs_set (ad : Nat → Nat) (f : Nat → Int32) {k : Nat} (v : Int32) (hk : k < 39) (hi : mInt k = true) : (mFs ad f).set k (.int v) = mFs ad (upd f k v) := by
  apply List.ext_getElem?
  intro j
  by_cases hj : j = k
  · subst hj
    rw [List.getElem?_set_self (by rw [mFs_len]; exact hk), mFs_at _ _ hk]
    simp [hi, upd]
  · rw [List.getElem?_set_ne (Ne.symm hj)]
    by_cases hl : j < 39
    · rw [mFs_at _ _ hl, mFs_at _ _ hl]
      simp [upd, hj]
    · rw [List.getElem?_eq_none (by rw [mFs_len]; omega), List.getElem?_eq_none (by rw [mFs_len]; omega)]
theorem mArr_le (k : Nat) : mArr k ≤ 4 := by
  unfold mArr
  split <;> omega
theorem ex_b {α β : Type} {x : Option α} {v : α} {f : α → Option (β × hH)} {r : β} {P : hH → Prop} (e : x = some v) (t : ∃ h2, f v = some (r, h2) ∧ P h2) : ∃ h2, x.bind f = some (r, h2) ∧ P h2 := by subst e; exact t
theorem ev_b {α : Type} {x : Option α} {v : α} {f : α → Option hH} {P : hH → Prop} (e : x = some v) (t : ∃ h2, f v = some h2 ∧ P h2) : ∃ h2, x.bind f = some h2 ∧ P h2 := by subst e; exact t
theorem ex_if {β : Type} {C : Prop} {d : Decidable C} {a b : Option (β × hH)} {r : β} {P : hH → Prop} (t : C → ∃ h2, a = some (r, h2) ∧ P h2) (f : ¬ C → ∃ h2, b = some (r, h2) ∧ P h2) : ∃ h2, (@ite _ C d a b) = some (r, h2) ∧ P h2 := by
  by_cases c : C
  · rw [if_pos c]; exact t c
  · rw [if_neg c]; exact f c
theorem ev_if {C : Prop} {d : Decidable C} {a b : Option hH} {P : hH → Prop} (t : C → ∃ h2, a = some h2 ∧ P h2) (f : ¬ C → ∃ h2, b = some h2 ∧ P h2) : ∃ h2, (@ite _ C d a b) = some h2 ∧ P h2 := by
  by_cases c : C
  · rw [if_pos c]; exact t c
  · rw [if_neg c]; exact f c
theorem ex_if0 {β : Type} {C : Prop} {d : Decidable C} {b : Option (β × hH)} {r : β} {P : hH → Prop} (c : ¬ C) (f : ∃ h2, b = some (r, h2) ∧ P h2) : ∃ h2, (@ite _ C d none b) = some (r, h2) ∧ P h2 := by rw [if_neg c]; exact f
theorem ev_if0 {C : Prop} {d : Decidable C} {b : Option hH} {P : hH → Prop} (c : ¬ C) (f : ∃ h2, b = some h2 ∧ P h2) : ∃ h2, (@ite _ C d none b) = some h2 ∧ P h2 := by rw [if_neg c]; exact f
section RM
variable {ad : Nat → Nat} {m : Nat} {h : hH} {s : MS}
theorem rObj (R : RepM ad m h s) : hObj h m 12 = some (mFs ad s.1) := by simp [hObj, R.1]
theorem rIs (R : RepM ad m h s) : hIs h m 12 = some () := by simp [hIs, rObj R]
theorem rGetI (R : RepM ad m h s) {k : Nat} (hk : (decide (k < 39) && mInt k) = true) : hGetI h m 12 k = some (s.1 k) := by
  simp only [Bool.and_eq_true, decide_eq_true_eq] at hk
  unfold hGetI
  rw [rObj R, Option.bind_some, mFs_at _ _ hk.1, if_pos hk.2]
theorem rGetA (R : RepM ad m h s) {k : Nat} (hk : (decide (k < 39) && !mInt k) = true) : hGetA h m 12 k = some (ad k) := by
  simp only [Bool.and_eq_true, decide_eq_true_eq, Bool.not_eq_true'] at hk
  unfold hGetA
  rw [rObj R, Option.bind_some, mFs_at _ _ hk.1, if_neg (by rw [hk.2]; decide)]
theorem rPut (R : RepM ad m h s) {k : Nat} {v : Int32} (hk : (decide (k < 39) && mInt k) = true) : ∃ h2, hPut h m 12 k (.int v) = some h2 ∧ RepM ad m h2 (sPut s k v) := by
  simp only [Bool.and_eq_true, decide_eq_true_eq] at hk
  refine ⟨hSet h m (.inl (12, (mFs ad s.1).set k (.int v))), ?_, ?_⟩
  · unfold hPut
    rw [rObj R, Option.bind_some, if_pos (by rw [mFs_len]; exact hk.1)]
  · rw [mFs_set _ _ _ hk.1 hk.2]
    obtain ⟨r1, r2, r3, r4⟩ := R
    have ne : ∀ k, mArr k ≠ 0 → ad k ≠ m := by
      intro k hk e
      by_cases h4 : mArr k = 4
      · have := r3 k h4; rw [e, r1] at this; simp at this
      · have hle := mArr_le k
        have h5 : mArr k = 1 ∨ mArr k = 2 ∨ mArr k = 3 := by omega
        have := r2 k h5; rw [e, r1] at this; simp at this
    refine ⟨by simp [hSet, sPut], fun j hj => ?_, fun j hj => ?_, r4⟩
    · have h9 : ad j ≠ m := ne j (by omega)
      simpa [hSet, sPut, h9] using r2 j hj
    · have h9 : ad j ≠ m := ne j (by omega)
      simpa [hSet, sPut, h9] using r3 j hj
theorem rArr (R : RepM ad m h s) {k : Nat} (hk : (mArr k == 1 || mArr k == 2 || mArr k == 3) = true) : hArr h (ad k) (mTy k) = some (mLen k, .inl (s.2.1 k)) := by
  have := R.2.1 k (by simpa [Bool.or_eq_true, or_assoc] using hk)
  simp [hArr, this]
theorem rLdI (R : RepM ad m h s) {k : Nat} {i : Int32} {ty : FieldType} {n : Nat} (hk : (decide (mTy k = ty) && decide (mLen k = n) && (mArr k == 1 || mArr k == 2 || mArr k == 3)) = true) (hi : ¬ (i < 0 ∨ n ≤ i.toNatClampNeg)) : hLdI h (ad k) ty i = some (s.2.1 k i.toNatClampNeg) := by
  rw [Bool.and_eq_true, Bool.and_eq_true, decide_eq_true_eq, decide_eq_true_eq] at hk
  obtain ⟨⟨rfl, rfl⟩, hk⟩ := hk
  unfold hLdI
  rw [rArr R hk, Option.bind_some]
  simp only
  rw [if_neg hi]
theorem rLdL (R : RepM ad m h s) {k : Nat} {i : Int32} {n : Nat} (hk : (decide (mLen k = n) && (mArr k == 4)) = true) (hi : ¬ (i < 0 ∨ n ≤ i.toNatClampNeg)) : hLdL h (ad k) i = some (s.2.2 k i.toNatClampNeg) := by
  rw [Bool.and_eq_true, decide_eq_true_eq, beq_iff_eq] at hk
  obtain ⟨rfl, hk⟩ := hk
  have := R.2.2.1 k hk
  unfold hLdL
  have e : hArr h (ad k) .long = some (mLen k, .inr (.inl (s.2.2 k))) := by simp [hArr, this]
  rw [e, Option.bind_some]
  simp only
  rw [if_neg hi]
theorem rSt0 (R : RepM ad m h s) {k i : Nat} {x : Int32} (hk : (mArr k == 1 || mArr k == 2 || mArr k == 3) = true) : RepM ad m (hSet h (ad k) (.inr (mTy k, mLen k, .inl (upd (s.2.1 k) i x)))) (sStI s k i x) := by
  have hk' : mArr k = 1 ∨ mArr k = 2 ∨ mArr k = 3 := by simpa [Bool.or_eq_true, or_assoc] using hk
  obtain ⟨r1, r2, r3, r4⟩ := R
  have nm : m ≠ ad k := fun e => by
    have := r2 k hk'; rw [← e, r1] at this; simp at this
  refine ⟨by simpa [hSet, sStI, nm] using r1, fun j hj => ?_, fun j hj => ?_, r4⟩
  · by_cases e : j = k
    · subst e; simp [hSet, sStI]
    · have : ad j ≠ ad k := fun q => e (r4 j k (by omega) (by omega) q)
      simpa [hSet, sStI, this, e] using r2 j hj
  · have : ad j ≠ ad k := fun q => by have := r4 j k (by omega) (by omega) q; subst this; omega
    simpa [hSet, sStI, this] using r3 j hj
theorem rStI (R : RepM ad m h s) {k : Nat} {i x : Int32} {n : Nat} (hk : (decide (mLen k = n) && (mArr k == 1)) = true) (hi : ¬ (i < 0 ∨ n ≤ i.toNatClampNeg)) : ∃ h2, hStI h (ad k) i x = some h2 ∧ RepM ad m h2 (sStI s k i.toNatClampNeg x) := by
  rw [Bool.and_eq_true, decide_eq_true_eq] at hk
  obtain ⟨rfl, hk⟩ := hk
  have hb : (mArr k == 1 || mArr k == 2 || mArr k == 3) = true := by rw [hk]; rfl
  have ht : mTy k = .int := by unfold mTy; rw [beq_iff_eq.mp hk]; rfl
  have R2 := rSt0 R (i := i.toNatClampNeg) (x := x) hb
  rw [ht] at R2
  refine ⟨_, ?_, R2⟩
  unfold hStI
  have e := rArr R hb
  rw [ht] at e
  rw [e, Option.bind_some]
  simp only
  rw [if_neg hi]
theorem rStB (R : RepM ad m h s) {k : Nat} {i x : Int32} {n : Nat} (hk : (decide (mLen k = n) && (mArr k == 2)) = true) (hi : ¬ (i < 0 ∨ n ≤ i.toNatClampNeg)) : ∃ h2, hStB h (ad k) i x = some h2 ∧ RepM ad m h2 (sStI s k i.toNatClampNeg x.toInt8.toInt32) := by
  rw [Bool.and_eq_true, decide_eq_true_eq] at hk
  obtain ⟨rfl, hk⟩ := hk
  have hb : (mArr k == 1 || mArr k == 2 || mArr k == 3) = true := by rw [beq_iff_eq.mp hk]; rfl
  have ht : mTy k = .byte := by unfold mTy; rw [beq_iff_eq.mp hk]; rfl
  have R2 := rSt0 R (i := i.toNatClampNeg) (x := x.toInt8.toInt32) hb
  rw [ht] at R2
  refine ⟨_, ?_, R2⟩
  unfold hStB
  have e := rArr R hb
  rw [ht] at e
  rw [e, Option.bind_some]
  simp only
  rw [if_neg hi]
theorem rStZ (R : RepM ad m h s) {k : Nat} {i x : Int32} {n : Nat} (hk : (decide (mLen k = n) && (mArr k == 3)) = true) (hi : ¬ (i < 0 ∨ n ≤ i.toNatClampNeg)) : ∃ h2, hStZ h (ad k) i x = some h2 ∧ RepM ad m h2 (sStI s k i.toNatClampNeg (x &&& 1)) := by
  rw [Bool.and_eq_true, decide_eq_true_eq] at hk
  obtain ⟨rfl, hk⟩ := hk
  have hb : (mArr k == 1 || mArr k == 2 || mArr k == 3) = true := by rw [beq_iff_eq.mp hk]; rfl
  have ht : mTy k = .boolean := by unfold mTy; rw [beq_iff_eq.mp hk]; rfl
  have R2 := rSt0 R (i := i.toNatClampNeg) (x := x &&& 1) hb
  rw [ht] at R2
  refine ⟨_, ?_, R2⟩
  unfold hStZ
  have e := rArr R hb
  rw [ht] at e
  rw [e, Option.bind_some]
  simp only
  rw [if_neg hi]
theorem rStJ (R : RepM ad m h s) {k : Nat} {i : Int32} {x : Int64} {n : Nat} (hk : (decide (mLen k = n) && (mArr k == 4)) = true) (hi : ¬ (i < 0 ∨ n ≤ i.toNatClampNeg)) : ∃ h2, hStL h (ad k) i x = some h2 ∧ RepM ad m h2 (sStL s k i.toNatClampNeg x) := by
  rw [Bool.and_eq_true, decide_eq_true_eq, beq_iff_eq] at hk
  obtain ⟨rfl, hk⟩ := hk
  obtain ⟨r1, r2, r3, r4⟩ := R
  have h0 := r3 k hk
  have nm : m ≠ ad k := fun e => by rw [← e, r1] at h0; simp at h0
  refine ⟨hSet h (ad k) (.inr (.long, mLen k, .inr (.inl (vp_updL (s.2.2 k) i.toNatClampNeg x)))), ?_, ?_⟩
  · unfold hStL
    have e : hArr h (ad k) .long = some (mLen k, .inr (.inl (s.2.2 k))) := by simp [hArr, h0]
    rw [e, Option.bind_some]
    simp only
    rw [if_neg hi]
  · refine ⟨by simpa [hSet, sStL, nm] using r1, fun j hj => ?_, fun j hj => ?_, r4⟩
    · have : ad j ≠ ad k := fun q => by have := r4 j k (by omega) (by omega) q; subst this; omega
      simpa [hSet, sStL, this] using r2 j hj
    · by_cases e : j = k
      · subst e; simp [hSet, sStL]
      · have : ad j ≠ ad k := fun q => e (r4 j k (by omega) (by omega) q)
        simpa [hSet, sStL, this, e] using r3 j hj
end RM
