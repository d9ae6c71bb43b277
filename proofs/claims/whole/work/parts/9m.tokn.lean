/-! the reference's reading of a word -/
theorem u255 (x : Int32) : ∃ u : Nat, u < 256 ∧ x &&& 255 = nI u := by
  refine ⟨(x &&& 255).toBitVec.toNat, ?_, ?_⟩
  · rw [Int32.toBitVec_and, BitVec.toNat_and]
    have h : (255 : Int32).toBitVec.toNat = 255 := by decide
    rw [h]
    have := @Nat.and_le_right x.toBitVec.toNat 255
    omega
  · apply Int32.toBitVec_inj.mp
    have : (nI (x &&& 255).toBitVec.toNat).toBitVec = BitVec.ofNat 32 (x &&& 255).toBitVec.toNat := rfl
    rw [this, BitVec.ofNat_toNat, BitVec.setWidth_eq]
theorem lN_256 (p : Nat) : (256 : Int64) * lN p = lN (256 * p) := (Int64.ofNat_mul 256 p).symm
/-- five bytes as one number -/
def pkw (u : Nat → Nat) (n : Nat) : Nat → Nat
  | 0 => 0
  | j + 1 => 256 * pkw u n j + if j < n then u j else 0
theorem pkw_le {u : Nat → Nat} {n : Nat} (hu : ∀ k, k < n → u k < 256) : ∀ j, pkw u n j < 256 ^ j := by
  intro j
  induction j with
  | zero => simp [pkw]
  | succ j ih =>
    simp only [pkw]
    rw [Nat.pow_succ]
    by_cases c : j < n
    · have := hu j c; simp only [c, if_true]; omega
    · simp only [c, if_false]; omega
theorem pk5_inj {a b c d e a2 b2 c2 d2 e2 : Nat} (h1 : a < 256) (h2 : b < 256) (h3 : c < 256) (h4 : d < 256) (h5 : e < 256) (g1 : a2 < 256) (g2 : b2 < 256) (g3 : c2 < 256) (g4 : d2 < 256) (g5 : e2 < 256) (h : 256 * (256 * (256 * (256 * (256 * 0 + a) + b) + c) + d) + e = 256 * (256 * (256 * (256 * (256 * 0 + a2) + b2) + c2) + d2) + e2) : a = a2 ∧ b = b2 ∧ c = c2 ∧ d = d2 ∧ e = e2 := by omega
section TOKN
variable {F : Nat} {m : MS} {b n : Nat} {N : Nat}
/-- a word of n bytes at b, on the tape of N bytes -/
theorem name16 {u : Nat → Nat} (hb : b + n ≤ 800) (hu : ∀ k, k < n → m.2.1 1 (b + k) &&& 255 = nI (u k)) (hl : ∀ k, k < n → u k < 256) (h5 : n ≤ 5) : ∀ (d j z : Nat), j + d = 5 → d < z → N_Mo_nameOf_16 F z m (nI b) (nI n) (lN (pkw u n j)) (nI j) = N_Mo_nameOf_65 F m (nI b) (nI n) (lN (pkw u n 5)) := by
  intro d
  induction d with
  | zero =>
    intro j z hj hz
    obtain ⟨z, rfl⟩ : ∃ y, z = y + 1 := ⟨z - 1, by omega⟩
    have ej : j = 5 := by omega
    subst ej
    have b1 : (5 : Int32) ≤ nI 5 := by decide
    simp [N_Mo_nameOf_16, BN_Mo_nameOf_16, b1]
  | succ d ih =>
    intro j z hj hz
    obtain ⟨z, rfl⟩ : ∃ y, z = y + 1 := ⟨z - 1, by omega⟩
    have i1 := ih (j + 1) z (by omega) (by omega)
    have b1 : ¬ (5 : Int32) ≤ nI j := nI_ge (b := 5) (by omega) (by decide)
    have b2 : ¬ (6 : Int32) ≤ nI n := nI_ge (b := 6) (by omega) (by decide)
    show BN_Mo_nameOf_16 F (N_Mo_nameOf_16 F z) m (nI b) (nI n) (lN (pkw u n j)) (nI j) = _
    unfold BN_Mo_nameOf_16 N_Mo_nameOf_56
    rw [if_neg b1, if_neg b2, nI_1, lN_256]
    simp only [pkw] at i1
    by_cases c : j < n
    · rw [if_pos c] at i1
      have b3 : ¬ nI n ≤ nI j := nI_ge c (by omega)
      have b4 : nI b + nI j = nI (b + j) := nI_add _ _
      have b5 : ¬ (nI (b + j) < 0 ∨ 800 ≤ (nI (b + j)).toNatClampNeg) := nI_in (by omega) (by decide)
      have b6 : (nI (b + j)).toNatClampNeg = b + j := nI_clamp (by omega)
      have := hl j c
      rw [if_neg b3, b4, if_neg b5, b6, hu j c, nI_l (by omega), lN_add]
      exact i1
    · rw [if_neg c] at i1
      have b3 : nI n ≤ nI j := nI_le (by omega) (by omega)
      have b4 : (0 : Int32).toInt64 = lN 0 := rfl
      rw [if_pos b3, b4, lN_add]
      exact i1
/-- the names' chain -/
def pkl (k : Nat) : Nat := pkw (fun i => (lit k).getD i 0) (lit k).length 5
def nch (x : Int64) : Int32 := if x = lN (pkl 0) then -1 else if x = lN (pkl 2) then -2 else if x = lN (pkl 1) then -3 else if x = lN (pkl 18) then -4 else if x = lN (pkl 17) then -5 else if x = lN (pkl 4) then -6 else if x = lN (pkl 5) then -7 else -20
def zs (g : Nat → Int32) (b : Nat) : Nat → Nat → Bool
  | 0, _ => false
  | d + 1, j => (g (b + j) == 0) || zs g b d (j + 1)
theorem name68 (hb : b + n ≤ 800) : ∀ (d j z : Nat) (x : Int64), j + d = n → d < z → N_Mo_nameOf_68 F z m (nI b) (nI n) x (nI j) = some (nch (if zs (m.2.1 1) b d j then -1 else x), m) := by
  intro d
  induction d with
  | zero =>
    intro j z x hj hz
    obtain ⟨z, rfl⟩ : ∃ y, z = y + 1 := ⟨z - 1, by omega⟩
    have b1 : nI n ≤ nI j := nI_le (by omega) (by omega)
    have f0 : N_Mo_five F m 116 97 98 108 101 = some (lN (pkl 0), m) := by unfold N_Mo_five; congr 1
    have f1 : N_Mo_five F m 114 117 108 101 0 = some (lN (pkl 2), m) := by unfold N_Mo_five; congr 1
    have f2 : N_Mo_five F m 119 104 101 110 0 = some (lN (pkl 1), m) := by unfold N_Mo_five; congr 1
    have f3 : N_Mo_five F m 110 101 101 100 0 = some (lN (pkl 18), m) := by unfold N_Mo_five; congr 1
    have f4 : N_Mo_five F m 97 110 100 0 0 = some (lN (pkl 17), m) := by unfold N_Mo_five; congr 1
    have f5 : N_Mo_five F m 102 97 99 116 0 = some (lN (pkl 4), m) := by unfold N_Mo_five; congr 1
    have f6 : N_Mo_five F m 97 116 0 0 0 = some (lN (pkl 5), m) := by unfold N_Mo_five; congr 1
    show BN_Mo_nameOf_68 F (N_Mo_nameOf_68 F z) m (nI b) (nI n) x (nI j) = _
    unfold BN_Mo_nameOf_68
    simp only [b1, if_true, f0, f1, f2, f3, f4, f5, f6, Option.bind_some, cmpL_eq, zs]
    unfold nch
    simp only [Bool.false_eq_true, if_false]
    repeat' split
    all_goals rfl
  | succ d ih =>
    intro j z x hj hz
    obtain ⟨z, rfl⟩ : ∃ y, z = y + 1 := ⟨z - 1, by omega⟩
    have b1 : ¬ nI n ≤ nI j := nI_ge (by omega) (by omega)
    have b4 : nI b + nI j = nI (b + j) := nI_add _ _
    have b5 : ¬ (nI (b + j) < 0 ∨ 800 ≤ (nI (b + j)).toNatClampNeg) := nI_in (by omega) (by decide)
    have b6 : (nI (b + j)).toNatClampNeg = b + j := nI_clamp (by omega)
    show BN_Mo_nameOf_68 F (N_Mo_nameOf_68 F z) m (nI b) (nI n) x (nI j) = _
    unfold BN_Mo_nameOf_68 N_Mo_nameOf_93
    rw [if_neg b1, b4, if_neg b5, b6, nI_1]
    by_cases c : m.2.1 1 (b + j) = 0
    · rw [if_pos c, ih (j + 1) z (-1) (by omega) (by omega)]
      simp [zs, c]
    · rw [if_neg c, ih (j + 1) z x (by omega) (by omega)]
      simp [zs, c]
theorem zs_none {g : Nat → Int32} : ∀ (d j : Nat), zs g b d j = false → ∀ i, j ≤ i → i < j + d → g (b + i) ≠ 0 := by
  intro d
  induction d with
  | zero => intro j _ i h1 h2; omega
  | succ d ih =>
    intro j h i h1 h2
    simp only [zs, Bool.or_eq_false_iff, beq_eq_false_iff_ne] at h
    by_cases e : i = j
    · rw [e]; exact h.1
    · exact ih (j + 1) h.2 i (by omega) (by omega)
theorem zs_of {g : Nat → Int32} : ∀ (d j : Nat), (∀ i, j ≤ i → i < j + d → g (b + i) ≠ 0) → zs g b d j = false := by
  intro d
  induction d with
  | zero => intro j _; rfl
  | succ d ih =>
    intro j h
    simp only [zs, Bool.or_eq_false_iff, beq_eq_false_iff_ne]
    exact ⟨h j (by omega) (by omega), ih (j + 1) (fun i h1 h2 => h i (by omega) (by omega))⟩
theorem wpre_iff {g : Nat → Int32} : ∀ {l : List Nat} {b : Nat}, wpre g b l = true ↔ ∀ i (h : i < l.length), g (b + i) = nI l[i] := by
  intro l
  induction l with
  | nil => intro b; simp [wpre]
  | cons c l ih =>
    intro b
    simp only [wpre, Bool.and_eq_true, beq_iff_eq, ih]
    constructor
    · intro h i hi
      cases i with
      | zero => exact h.1
      | succ i =>
        have := h.2 i (by simpa using hi)
        rw [show b + (i + 1) = b + 1 + i by omega]
        exact this
    · intro h
      refine ⟨h 0 (by simp), fun i hi => ?_⟩
      have := h (i + 1) (by simpa using hi)
      rw [show b + (i + 1) = b + 1 + i by omega] at this
      exact this
theorem nch_m1 : nch (-1) = -20 := by decide
theorem pkl_inj : ∀ j, j < 19 → pkl j < 2 ^ 63 := by decide
/-- a name that is there -/
theorem nm_in {g : Nat → Int32} {u : Nat → Nat} {k : Nat} (hk : k = 0 ∨ k = 1 ∨ k = 2 ∨ k = 4 ∨ k = 5 ∨ k = 17 ∨ k = 18) (hn : n = (lit k).length) (hu : ∀ i (h : i < (lit k).length), u i = (lit k)[i]) : nch (lN (pkw u n 5)) = cd k := by
  have e : pkw u n 5 = pkl k := by
    unfold pkl
    rw [← hn]
    have : ∀ j, pkw u n j = pkw (fun i => (lit k).getD i 0) n j := by
      intro j
      induction j with
      | zero => rfl
      | succ j ih =>
        simp only [pkw, ih]
        by_cases c : j < n
        · have h2 := hu j (by omega)
          simp only [c, if_true, h2, List.getD_eq_getElem?_getD, List.getElem?_eq_getElem (show j < (lit k).length by omega), Option.getD_some]
        · simp only [c, if_false]
    exact this 5
  rw [e]
  rcases hk with h | h | h | h | h | h | h <;> subst h <;> decide
/-- a name that is not there -/
theorem nm_out {g : Nat → Int32} {u : Nat → Nat} (h5 : n ≤ 5) (hl : ∀ i, i < n → u i < 256) (h0 : ∀ i, i < n → u i ≠ 0) (hno : ∀ k, k = 0 ∨ k = 1 ∨ k = 2 ∨ k = 4 ∨ k = 5 ∨ k = 17 ∨ k = 18 → ¬ (n = (lit k).length ∧ ∀ i (h : i < (lit k).length), u i = (lit k)[i])) : nch (lN (pkw u n 5)) = -20 := by
  have hp : pkw u n 5 < 2 ^ 63 := by
    have := pkw_le hl 5
    have : (256 : Nat) ^ 5 < 2 ^ 63 := by decide
    omega
  have key : ∀ k, k = 0 ∨ k = 1 ∨ k = 2 ∨ k = 4 ∨ k = 5 ∨ k = 17 ∨ k = 18 → ¬ lN (pkw u n 5) = lN (pkl k) := by
    intro k hk q
    have hk19 : k < 19 := by omega
    rw [pk_lEQ hp (pkl_inj k hk19)] at q
    apply hno k hk
    have dd : ∀ i, (if i < n then u i else 0) < 256 := fun i => by
      by_cases c : i < n
      · simp only [c, if_true]; exact hl i c
      · simp only [c, if_false]; omega
    have ee : ∀ i, (if i < (lit k).length then (lit k).getD i 0 else 0) < 256 := by
      intro i
      by_cases c : i < (lit k).length
      · simp only [c, if_true]
        have := asc_lit k hk19
        simp only [asc, List.all_eq_true, decide_eq_true_eq] at this
        rw [List.getD_eq_getElem?_getD, List.getElem?_eq_getElem c]
        have := this _ (List.getElem_mem c)
        simp only [Option.getD_some]
        omega
      · simp only [c, if_false]; omega
    have inj := pk5_inj (dd 0) (dd 1) (dd 2) (dd 3) (dd 4) (ee 0) (ee 1) (ee 2) (ee 3) (ee 4) q
    obtain ⟨i0, i1, i2, i3, i4⟩ := inj
    have z0 := h0 0
    have z1 := h0 1
    have z2 := h0 2
    have z3 := h0 3
    have z4 := h0 4
    have hn : n = 0 ∨ n = 1 ∨ n = 2 ∨ n = 3 ∨ n = 4 ∨ n = 5 := by omega
    have fin : n = (lit k).length ∧ ∀ i, i < (lit k).length → u i = (lit k).getD i 0 := by
      rcases hk with h | h | h | h | h | h | h <;> subst h <;> rcases hn with h | h | h | h | h | h <;> subst h <;> simp [lit] at i0 i1 i2 i3 i4 z0 z1 z2 z3 z4 ⊢ <;> first
        | omega
        | (intro i hi
           have : i = 0 ∨ i = 1 ∨ i = 2 ∨ i = 3 ∨ i = 4 := by omega
           rcases this with h | h | h | h | h <;> subst h <;> simp <;> omega)
    refine ⟨fin.1, fun i hi => ?_⟩
    rw [fin.2 i hi, List.getD_eq_getElem?_getD, List.getElem?_eq_getElem hi]
    rfl
  unfold nch
  rw [if_neg (key 0 (by decide)), if_neg (key 2 (by decide)), if_neg (key 1 (by decide)), if_neg (key 18 (by decide)), if_neg (key 17 (by decide)), if_neg (key 4 (by decide)), if_neg (key 5 (by decide))]
/-- what a name is, as far as names go -/
theorem nameOf_eq (hb : b + n ≤ N) (hN : N ≤ 800) (hg : nrm (m.2.1 1) N) (hF : 900 < F) : ∃ x, N_Mo_nameOf F m (nI b) (nI n) = some (x, m) ∧ (∀ k, k = 0 ∨ k = 1 ∨ k = 2 ∨ k = 4 ∨ k = 5 ∨ k = 17 ∨ k = 18 → wis (m.2.1 1) b (b + n) (lit k) = true → x = cd k) ∧ ((∀ k, k = 0 ∨ k = 1 ∨ k = 2 ∨ k = 4 ∨ k = 5 ∨ k = 17 ∨ k = 18 → wis (m.2.1 1) b (b + n) (lit k) = false) → x = -20) := by
  have hu : ∀ k, ∃ u : Nat, u < 256 ∧ m.2.1 1 (b + k) &&& 255 = nI u := fun k => u255 _
  obtain ⟨u, hu⟩ := Classical.axiomOfChoice hu
  have hw : ∀ k, k < 19 → (wis (m.2.1 1) b (b + n) (lit k) = true ↔ n = (lit k).length ∧ ∀ i (h : i < (lit k).length), u i = (lit k)[i]) := by
    intro k hk
    unfold wis
    simp only [Bool.and_eq_true, decide_eq_true_eq, wpre_iff]
    have hn2 : b + n - b = n := by omega
    rw [hn2]
    constructor
    · rintro ⟨h1, h2⟩
      refine ⟨h1, fun i hi => ?_⟩
      have hc : (lit k)[i] < 128 := by
        have := asc_lit k hk
        simp only [asc, List.all_eq_true, decide_eq_true_eq] at this
        exact this _ (List.getElem_mem hi)
      have := (nrm_255 hg (i := b + i) (by omega) hc).mpr (h2 i hi)
      rw [(hu i).2, nI_eq (by have := (hu i).1; omega) (by omega)] at this
      exact this
    · rintro ⟨h1, h2⟩
      refine ⟨h1, fun i hi => ?_⟩
      have hc : (lit k)[i] < 128 := by
        have := asc_lit k hk
        simp only [asc, List.all_eq_true, decide_eq_true_eq] at this
        exact this _ (List.getElem_mem hi)
      apply (nrm_255 hg (i := b + i) (by omega) hc).mp
      rw [(hu i).2, h2 i hi]
  have len5 : ∀ k, k < 19 → (lit k).length ≤ 5 := by decide +kernel
  by_cases c5 : n ≤ 5
  · have e5 : nI n ≤ 5 := nI_le (b := 5) c5 (by decide)
    have e16 := name16 (F := F) (m := m) (b := b) (n := n) (by omega) (fun k _ => (hu k).2) (fun k _ => (hu k).1) c5 5 0 F (by omega) (by omega)
    have e68 := name68 (F := F) (m := m) (b := b) (n := n) (by omega) n 0 F (lN (pkw u n 5)) (by omega) (by omega)
    have eN : N_Mo_nameOf F m (nI b) (nI n) = some (nch (if zs (m.2.1 1) b n 0 then -1 else lN (pkw u n 5)), m) := by
      unfold N_Mo_nameOf N_Mo_nameOf_12
      rw [if_pos e5]
      simp only [pkw, nIk0] at e16
      have : (lN 0 : Int64) = 0 := rfl
      rw [this] at e16
      rw [e16]
      unfold N_Mo_nameOf_65
      rw [nIk0] at e68
      exact e68
    refine ⟨_, eN, ?_, ?_⟩
    · intro k hk hwk
      have hk19 : k < 19 := by omega
      obtain ⟨h1, h2⟩ := (hw k hk19).mp hwk
      have hz : zs (m.2.1 1) b n 0 = false := by
        apply zs_of
        intro i _ hi q
        have h3 := (hu i).2
        rw [q] at h3
        have h4 := h2 i (by omega)
        have hpos : ∀ k, k < 19 → (lit k).all (fun c => decide (0 < c)) = true := by decide +kernel
        have h6 := hpos k hk19
        simp only [List.all_eq_true, decide_eq_true_eq] at h6
        have h5 := h6 _ (List.getElem_mem (show i < (lit k).length by omega))
        rw [← h4] at h5
        have h7 : (0 : Int32) &&& 255 = nI 0 := by decide
        rw [h7, nI_eq (by omega) (by have := (hu i).1; omega)] at h3
        omega
      rw [hz]
      exact nm_in (g := m.2.1 1) hk h1 h2
    · intro hno
      cases hz : zs (m.2.1 1) b n 0 with
      | true => exact nch_m1
      | false =>
        have hz2 := zs_none n 0 hz
        apply nm_out (g := m.2.1 1) c5 (fun i _ => (hu i).1)
        · intro i hi q
          have h3 := (hu i).2
          rw [q] at h3
          have h4 := (nrm_255 hg (i := b + i) (by omega) (c := 0) (by decide)).mp h3
          exact hz2 i (by omega) (by omega) h4
        · intro k hk hc
          have := (hw k (by omega)).mpr hc
          rw [hno k hk] at this
          cases this
  · have e5 : ¬ nI n ≤ 5 := nI_ge (b := n) (a := 5) (by omega) (by omega)
    have e68 := name68 (F := F) (m := m) (b := b) (n := n) (by omega) n 0 F (-1) (by omega) (by omega)
    have e6 : (6 : Int32) ≤ nI n := nI_le (a := 6) (by omega) (by omega)
    have eN : N_Mo_nameOf F m (nI b) (nI n) = some (-20, m) := by
      unfold N_Mo_nameOf N_Mo_nameOf_12
      rw [if_neg e5]
      obtain ⟨z, rfl⟩ : ∃ y, F = y + 1 := ⟨F - 1, by omega⟩
      show BN_Mo_nameOf_16 _ _ m (nI b) (nI n) (-1) 0 = _
      unfold BN_Mo_nameOf_16
      rw [if_neg (by decide), if_pos e6]
      unfold N_Mo_nameOf_65
      rw [nIk0] at e68
      rw [e68]
      have : (if zs (m.2.1 1) b n 0 = true then (-1 : Int64) else -1) = -1 := by split <;> rfl
      rw [this, nch_m1]
    refine ⟨-20, eN, ?_, fun _ => rfl⟩
    intro k hk hwk
    have hk19 : k < 19 := by omega
    have := ((hw k hk19).mp hwk).1
    have := len5 k hk19
    omega
end TOKN
