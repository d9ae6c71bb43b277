/-! WORDS AS TOKENS -/
def lit (k : Nat) : List Nat := match k with
  | 0 => [116, 97, 98, 108, 101] | 1 => [119, 104, 101, 110] | 2 => [114, 117, 108, 101] | 3 => [59] | 4 => [102, 97, 99, 116] | 5 => [97, 116] | 6 => [40] | 7 => [43] | 8 => [45] | 9 => [42] | 10 => [47] | 11 => [37] | 12 => [41] | 13 => [60] | 14 => [60, 61] | 15 => [61] | 16 => [47, 61] | 17 => [97, 110, 100] | _ => [110, 101, 101, 100]
/-- the reference's code of a literal -/
def cd (k : Nat) : Int32 := match k with
  | 0 => -1 | 1 => -3 | 2 => -2 | 3 => -19 | 4 => -6 | 5 => -7 | 6 => -8 | 7 => -10 | 8 => -11 | 9 => -12 | 10 => -13 | 11 => -14 | 12 => -9 | 13 => -15 | 14 => -16 | 15 => -17 | 16 => -18 | 17 => -5 | _ => -4
theorem sAt_lit : ∀ k, k < 19 → sAt k = some ((lit k).map nI) := by decide +kernel
/-- the bytes from b on are those of l -/
def wpre (g : Nat → Int32) (b : Nat) : List Nat → Bool
  | [] => true
  | c :: l => (g b == nI c) && wpre g (b + 1) l
def wis (g : Nat → Int32) (b e : Nat) (l : List Nat) : Bool := decide (e - b = l.length) && wpre g b l
def asc (l : List Nat) : Bool := l.all (fun c => decide (c < 128))
theorem asc_lit : ∀ k, k < 19 → asc (lit k) = true := by decide +kernel
theorem wpre_eq {g : Nat → Int32} : ∀ {l l2 : List Nat} {b : Nat}, asc l = true → asc l2 = true → l.length = l2.length → wpre g b l = true → wpre g b l2 = true → l = l2 := by
  intro l
  induction l with
  | nil => intro l2 b _ _ h _ _; cases l2 with | nil => rfl | cons c l2 => simp at h
  | cons c l ih =>
    intro l2 b h1 h2 h3 h4 h5
    cases l2 with
    | nil => simp at h3
    | cons d l2 =>
      simp only [asc, List.all_cons, Bool.and_eq_true, decide_eq_true_eq] at h1 h2
      simp only [wpre, Bool.and_eq_true, beq_iff_eq] at h4 h5
      have e1 : nI c = nI d := h4.1.symm.trans h5.1
      rw [nI_eq (by omega) (by omega)] at e1
      have e2 := ih (b := b + 1) h1.2 h2.2 (by simpa using h3) h4.2 h5.2
      rw [e1, e2]
theorem wis_eq {g : Nat → Int32} {b e : Nat} {l l2 : List Nat} (h1 : asc l = true) (h2 : asc l2 = true) (h : wis g b e l = true) : wis g b e l2 = decide (l2 = l) := by
  unfold wis at h ⊢
  simp only [Bool.and_eq_true, decide_eq_true_eq] at h
  by_cases c : l2 = l
  · subst c; simp [h.1, h.2]
  · simp only [c, decide_false]
    cases q : decide (e - b = l2.length) && wpre g b l2 with
    | false => rfl
    | true =>
      simp only [Bool.and_eq_true, decide_eq_true_eq] at q
      exact absurd (wpre_eq h2 h1 (by omega) q.2 h.2) c
/-- digits -/
def dig (x : Int32) : Bool := decide (48 ≤ x) && decide (x ≤ 57)
def digs (g : Nat → Int32) (b : Nat) : Nat → Bool
  | 0 => true
  | j + 1 => digs g b j && dig (g (b + j))
def numv (g : Nat → Int32) (b : Nat) : Nat → Nat
  | 0 => 0
  | j + 1 => 10 * numv g b j + ((g (b + j)).toNatClampNeg - 48)
def isnum (g : Nat → Int32) (b e : Nat) : Bool := decide (e - b < 10) && digs g b (e - b)
/-- the token of a word: a number's value, or a code below 0 -/
def tk (g : Nat → Int32) (b e : Nat) : Int32 :=
  if isnum g b e then nI (numv g b (e - b)) else
  match (List.range 19).find? (fun k => wis g b e (lit k)) with
  | some k => cd k
  | none => -20
theorem dig_of {x : Int32} (h : dig x = true) : ∃ d : Nat, d < 10 ∧ x = nI (48 + d) := by
  unfold dig at h
  simp only [Bool.and_eq_true, decide_eq_true_eq] at h
  have h0 : ¬ x < 0 := fun q => absurd (Int32.lt_of_le_of_lt h.1 q) (by decide)
  obtain ⟨j, hj, rfl⟩ := nI_of h0
  have e1 : (48 : Int32) = nI 48 := rfl
  have e2 : (57 : Int32) = nI 57 := rfl
  rw [e1, e2, nI_leI (by omega) (by omega), nI_leI (by omega) (by omega)] at h
  exact ⟨j - 48, by omega, by congr 1; omega⟩
theorem numv_lt (g : Nat → Int32) (b : Nat) : ∀ j, digs g b j = true → numv g b j < 10 ^ j := by
  intro j
  induction j with
  | zero => intro _; simp [numv]
  | succ j ih =>
    intro h
    simp only [digs, Bool.and_eq_true] at h
    obtain ⟨d, hd, e⟩ := dig_of h.2
    have hc : (g (b + j)).toNatClampNeg = 48 + d := by rw [e]; exact nI_clamp (by omega)
    have := ih h.1
    simp only [numv]
    rw [hc, Nat.pow_succ]
    omega
theorem numv9 {g : Nat → Int32} {b e : Nat} (h : isnum g b e = true) : numv g b (e - b) < 1000000000 := by
  unfold isnum at h
  simp only [Bool.and_eq_true, decide_eq_true_eq] at h
  have h1 := numv_lt g b (e - b) h.2
  have h2 : 10 ^ (e - b) ≤ 10 ^ 9 := Nat.pow_le_pow_right (by decide) (by omega)
  have h3 : (10 : Nat) ^ 9 = 1000000000 := by decide
  omega
theorem digs_pre {g : Nat → Int32} {b : Nat} : ∀ {j k : Nat}, k < j → digs g b j = true → dig (g (b + k)) = true := by
  intro j
  induction j with
  | zero => intro k h; omega
  | succ j ih =>
    intro k hk h
    simp only [digs, Bool.and_eq_true] at h
    by_cases e : k = j
    · rw [e]; exact h.2
    · exact ih (by omega) h.1
theorem lit_head : ∀ k, k < 19 → (match lit k with | [] => false | c :: _ => !dig (nI c)) = true := by decide +kernel
theorem wis_num {g : Nat → Int32} {b e k : Nat} (hk : k < 19) (h : wis g b e (lit k) = true) : isnum g b e = false := by
  unfold wis at h
  simp only [Bool.and_eq_true, decide_eq_true_eq] at h
  have hh := lit_head k hk
  cases hl : lit k with
  | nil => rw [hl] at hh; cases hh
  | cons c l =>
    rw [hl] at hh h
    simp only [wpre, Bool.and_eq_true, beq_iff_eq, List.length_cons] at h
    cases q : isnum g b e with
    | false => rfl
    | true =>
      unfold isnum at q
      simp only [Bool.and_eq_true, decide_eq_true_eq] at q
      have := digs_pre (k := 0) (by omega) q.2
      rw [Nat.add_zero, h.2.1] at this
      simp [this] at hh
theorem lit_inj : ∀ j, j < 19 → ∀ k, k < 19 → (lit j = lit k ↔ j = k) := by decide +kernel
theorem cd_inj : ∀ j, j < 19 → ∀ k, k < 19 → (cd j = cd k ↔ j = k) := by decide +kernel
theorem cd_neg : ∀ k, k < 19 → cd k < 0 ∧ cd k ≠ -20 := by decide +kernel
theorem tk_cases (g : Nat → Int32) (b e : Nat) : (isnum g b e = true ∧ (∃ v, v < 1000000000 ∧ v = numv g b (e - b) ∧ tk g b e = nI v) ∧ ∀ j, j < 19 → wis g b e (lit j) = false) ∨ (isnum g b e = false ∧ ∃ k, k < 19 ∧ tk g b e = cd k ∧ ∀ j, j < 19 → wis g b e (lit j) = decide (j = k)) ∨ (isnum g b e = false ∧ tk g b e = -20 ∧ ∀ j, j < 19 → wis g b e (lit j) = false) := by
  cases hn : isnum g b e with
  | true =>
    left
    refine ⟨rfl, ⟨numv g b (e - b), numv9 hn, rfl, by simp [tk, hn]⟩, fun j hj => ?_⟩
    cases q : wis g b e (lit j) with
    | false => rfl
    | true => rw [wis_num hj q] at hn; cases hn
  | false =>
    right
    cases hf : (List.range 19).find? (fun k => wis g b e (lit k)) with
    | some k =>
      left
      have h1 := List.find?_some hf
      have h2 := List.mem_of_find?_eq_some hf
      rw [List.mem_range] at h2
      refine ⟨rfl, k, h2, by simp [tk, hn, hf], fun j hj => ?_⟩
      rw [wis_eq (asc_lit k h2) (asc_lit j hj) h1]
      have := lit_inj j hj k h2
      by_cases c : j = k
      · subst c; simp
      · have : ¬ lit j = lit k := fun q => c (this.mp q)
        simp [this, c]
    | none =>
      right
      refine ⟨rfl, by simp [tk, hn, hf], fun j hj => ?_⟩
      rw [List.find?_eq_none] at hf
      have := hf j (List.mem_range.mpr hj)
      simpa using this
theorem tk_is {g : Nat → Int32} {b e j : Nat} (hj : j < 19) : wis g b e (lit j) = decide (tk g b e = cd j) := by
  rcases tk_cases g b e with ⟨-, ⟨v, hv, -, h1⟩, h2⟩ | ⟨-, k, hk, h1, h2⟩ | ⟨-, h1, h2⟩
  · rw [h2 j hj, h1]
    have := (cd_neg j hj).1
    have : ¬ nI v = cd j := fun q => by rw [← q] at this; exact nI_pos (by omega) this
    simp [this]
  · rw [h2 j hj, h1]
    have := cd_inj k hk j hj
    by_cases c : j = k
    · subst c; simp
    · have : ¬ cd k = cd j := fun q => c (this.mp q).symm
      simp [this, c]
  · rw [h2 j hj, h1]
    have := (cd_neg j hj).2
    have : ¬ (-20 : Int32) = cd j := fun q => this q.symm
    simp [this]
theorem tk_num (g : Nat → Int32) (b e : Nat) : (isnum g b e = true ↔ 0 ≤ tk g b e) ∧ (0 ≤ tk g b e → ∃ v, v < 1000000000 ∧ v = numv g b (e - b) ∧ tk g b e = nI v) := by
  rcases tk_cases g b e with ⟨h0, ⟨v, hv, hv2, h1⟩, h2⟩ | ⟨h0, k, hk, h1, h2⟩ | ⟨h0, h1, h2⟩
  · have : 0 ≤ tk g b e := by rw [h1]; exact nI_pos' (by omega)
    exact ⟨⟨fun _ => this, fun _ => h0⟩, fun _ => ⟨v, hv, hv2, h1⟩⟩
  · have : ¬ 0 ≤ tk g b e := by rw [h1]; exact Int32.not_le.mpr (cd_neg k hk).1
    exact ⟨⟨fun q => (by rw [h0] at q; cases q), fun q => absurd q this⟩, fun q => absurd q this⟩
  · have : ¬ 0 ≤ tk g b e := by rw [h1]; decide
    exact ⟨⟨fun q => (by rw [h0] at q; cases q), fun q => absurd q this⟩, fun q => absurd q this⟩
/-! the class's reading of a word -/
section TOKX
variable {F : Nat} {s : XS} {w b r p q n : Nat}
/-- the bytes are bytes -/
def nrm (g : Nat → Int32) (n : Nat) : Prop := ∀ i, i < n → by8 (g i) = g i
theorem nrm_255 {g : Nat → Int32} {n i c : Nat} (h : nrm g n) (hi : i < n) (hc : c < 128) : (g i &&& 255 = nI c) ↔ g i = nI c := by
  have h1 := by8_eq (g i) (k := c) hc
  rw [h i hi] at h1
  exact h1.symm
theorem is_loop (W0 : WoAt s w b r p q n) (hN : nrm (xA s r) n) {k st : Nat} (hk : k < 19) (hst : st + (lit k).length ≤ n) : ∀ (d j z : Nat), j + d = (lit k).length → d < z → X_Words_is_25 F z s w k (nI st) (nI j) = some (if wpre (xA s r) (st + j) ((lit k).drop j) then 1 else 0, s) := by
  obtain ⟨⟨tw, w0, w1, w2, tb, b0, tr, lr, -⟩, hb, hn, -⟩ := W0
  have es : sAt k = some ((lit k).map nI) := sAt_lit k hk
  have hlen : (lit k).length ≤ 5 := by
    have : ∀ k, k < 19 → (lit k).length ≤ 5 := by decide +kernel
    exact this k hk
  intro d
  induction d with
  | zero =>
    intro j z hj hz
    obtain ⟨z, rfl⟩ : ∃ y, z = y + 1 := ⟨z - 1, by omega⟩
    have e1 : (lit k).drop j = [] := List.drop_eq_nil_of_le (by omega)
    have b1 : nI (lit k).length ≤ nI j := nI_le (by omega) (by omega)
    rw [e1]
    simp [X_Words_is_25, BX_Words_is_25, X_Str_length, es, b1, wpre]
  | succ d ih =>
    intro j z hj hz
    obtain ⟨z, rfl⟩ : ∃ y, z = y + 1 := ⟨z - 1, by omega⟩
    have hjl : j < (lit k).length := by omega
    have e1 : (lit k).drop j = (lit k)[j] :: (lit k).drop (j + 1) := List.drop_eq_getElem_cons hjl
    have b1 : ¬ nI (lit k).length ≤ nI j := nI_ge (by omega) (by omega)
    have b2 : nI st + nI j = nI (st + j) := nI_add _ _
    have eb := X_Bytes_byteAt_in (F := F) tb b0 tr lr hb hn (i := st + j) (by omega)
    have b3 : ¬ nI j < 0 := nI_pos (by omega)
    have b4 : (nI j).toNatClampNeg = j := nI_clamp (by omega)
    have b5 : ¬ (lit k).length ≤ j := by omega
    have hc : (lit k)[j] < 128 := by
      have := asc_lit k hk
      simp only [asc, List.all_eq_true, decide_eq_true_eq] at this
      exact this _ (List.getElem_mem hjl)
    have e2 : ((lit k).map nI).getD j 0 &&& 255 = nI (lit k)[j] := by
      have : ((lit k).map nI).getD j 0 = nI (lit k)[j] := by
        rw [List.getD_eq_getElem?_getD, List.getElem?_map, List.getElem?_eq_getElem hjl]
        rfl
      rw [this]
      have h255 : ∀ c, c < 128 → nI c &&& 255 = nI c := by decide +kernel
      exact h255 _ hc
    have i1 := ih (j + 1) z (by omega) (by omega)
    have hg := nrm_255 hN (i := st + j) (by omega) hc
    rw [show st + (j + 1) = st + j + 1 by omega] at i1
    rw [e1]
    simp only [wpre]
    have ec : X_Str_charAt s k (nI j) = some (nI (lit k)[j], s) := by
      unfold X_Str_charAt
      rw [es, Option.bind_some, if_neg (by rw [b4, List.length_map]; exact fun q => q.elim b3 b5), b4, e2]
    have el : X_Str_length s k = some (nI (lit k).length, s) := by simp [X_Str_length, es]
    by_cases c : xA s r (st + j) = nI (lit k)[j]
    · have c2 := hg.mpr c
      rw [c2] at eb
      simp [X_Words_is_25, BX_Words_is_25, el, b1, xGetA, tw, w0, xIs, tb, b2, eb, ec, c, nI_1, i1, xpT, xpL, xpI, xpR, xpA, xpJ, xpO, xpZ, xInt, xN]
    · have c2 : ¬ xA s r (st + j) &&& 255 = nI (lit k)[j] := fun q => c (hg.mp q)
      simp [X_Words_is_25, BX_Words_is_25, el, b1, xGetA, tw, w0, xIs, tb, b2, eb, ec, c, c2, xpT, xpL, xpI, xpR, xpA, xpJ, xpO, xpZ, xInt, xN]
theorem X_is_eq (W0 : WoAt s w b r p q n) (hN : nrm (xA s r) n) {i k : Nat} (hi : i < wc (xA s r) n) (hk : k < 19) (hF : 10 < F) : X_Words_is F s w (nI i) k = some (if tk (xA s r) (wb (xA s r) n i) (we (xA s r) n i) = cd k then 1 else 0, s) := by
  obtain ⟨e1, e2⟩ := X_startOf_eq (F := F) W0 hi
  have tw := W0.1.1
  have hn := W0.2.2.1
  obtain ⟨f1, f2⟩ := (w_facts (xA s r) n).1 i hi
  have es : sAt k = some ((lit k).map nI) := sAt_lit k hk
  have hlen : (lit k).length ≤ 5 := by
    have : ∀ k, k < 19 → (lit k).length ≤ 5 := by decide +kernel
    exact this k hk
  have hw := tk_is (g := xA s r) (b := wb (xA s r) n i) (e := we (xA s r) n i) hk
  have hsub : nI (we (xA s r) n i) - nI (wb (xA s r) n i) = nI (we (xA s r) n i - wb (xA s r) n i) := by
    have : nI (we (xA s r) n i) = nI (we (xA s r) n i - wb (xA s r) n i) + nI (wb (xA s r) n i) := by rw [nI_add]; congr 1; omega
    rw [this, Int32.add_sub_cancel]
  unfold wis at hw
  by_cases c : we (xA s r) n i - wb (xA s r) n i = (lit k).length
  · have il := is_loop (F := F) W0 hN (k := k) (st := wb (xA s r) n i) hk (by omega) (lit k).length 0 F (by omega) (by omega)
    rw [nIk0, Nat.add_zero, List.drop_zero] at il
    simp only [c, decide_true, Bool.true_and] at hw
    rw [hw] at il
    simp [X_Words_is, xIs, tw, e1, e2, X_Str_length, es, hsub, c, il]
  · simp only [c, decide_false, Bool.false_and] at hw
    have hw2 : ¬ tk (xA s r) (wb (xA s r) n i) (we (xA s r) n i) = cd k := by simpa using hw.symm
    have hne : ¬ nI (we (xA s r) n i - wb (xA s r) n i) = nI (lit k).length := by
      rw [nI_eq (by omega) (by omega)]; exact c
    simp [X_Words_is, xIs, tw, e1, e2, X_Str_length, es, hsub, hne, hw2]
theorem dig_255 {g : Nat → Int32} {i : Nat} (h : nrm g n) (hi : i < n) : (dig (g i) = true → ∃ d, d < 10 ∧ g i = nI (48 + d) ∧ g i &&& 255 = nI (48 + d)) ∧ (dig (g i) = false → (g i &&& 255) < 48 ∨ ¬ (g i &&& 255) ≤ 57) := by
  constructor
  · intro hd
    obtain ⟨d, h1, h2⟩ := dig_of hd
    exact ⟨d, h1, h2, (nrm_255 h hi (by omega)).mpr h2⟩
  · intro hd
    apply Classical.byContradiction
    intro hc
    have c1 : ¬ (g i &&& 255) < 48 := fun q => hc (Or.inl q)
    have c2 : (g i &&& 255) ≤ 57 := Classical.byContradiction (fun q => hc (Or.inr q))
    have h0 : ¬ (g i &&& 255) < 0 := fun q => c1 (Int32.lt_trans q (by decide))
    obtain ⟨j, hj, e⟩ := nI_of h0
    rw [e] at c1 c2
    have e1 : (48 : Int32) = nI 48 := rfl
    have e2 : (57 : Int32) = nI 57 := rfl
    rw [e1, nI_ltI (by omega) (by omega)] at c1
    rw [e2, nI_leI (by omega) (by omega)] at c2
    have e3 := (nrm_255 h hi (c := j) (by omega)).mp e
    have : dig (g i) = true := by
      rw [e3]
      unfold dig
      rw [e1, e2]
      simp only [Bool.and_eq_true, decide_eq_true_eq]
      exact ⟨nI_le (by omega) (by omega), nI_le (by omega) (by omega)⟩
    rw [this] at hd
    cases hd
theorem num_loop (W0 : WoAt s w b r p q n) (hN : nrm (xA s r) n) {st en : Nat} (h1 : en ≤ n) (h9 : en - st ≤ 9) : ∀ (d j z : Nat), st + j + d = en → d < z → digs (xA s r) st j = true → X_Words_numberAt_33 F z s w (nI en) (nI (numv (xA s r) st j)) (nI (st + j)) = some (if digs (xA s r) st (en - st) then nI (numv (xA s r) st (en - st)) else -1, s) := by
  obtain ⟨⟨tw, w0, w1, w2, tb, b0, tr, lr, -⟩, hb, hn, -⟩ := W0
  intro d
  induction d with
  | zero =>
    intro j z hj hz hd
    obtain ⟨z, rfl⟩ : ∃ y, z = y + 1 := ⟨z - 1, by omega⟩
    have e1 : en - st = j := by omega
    have b1 : nI en ≤ nI (st + j) := nI_le (by omega) (by omega)
    rw [e1]
    simp [X_Words_numberAt_33, BX_Words_numberAt_33, b1, hd]
  | succ d ih =>
    intro j z hj hz hd
    obtain ⟨z, rfl⟩ : ∃ y, z = y + 1 := ⟨z - 1, by omega⟩
    have b1 : ¬ nI en ≤ nI (st + j) := nI_ge (by omega) (by omega)
    have eb := X_Bytes_byteAt_in (F := F) tb b0 tr lr hb hn (i := st + j) (by omega)
    obtain ⟨d1, d2⟩ := dig_255 hN (i := st + j) (by omega)
    cases hg : dig (xA s r (st + j)) with
    | true =>
      obtain ⟨v, hv, e1, e2⟩ := d1 hg
      rw [e2] at eb
      have hd2 : digs (xA s r) st (j + 1) = true := by simp [digs, hd, hg]
      have i1 := ih (j + 1) z (by omega) (by omega) hd2
      have c1 : ¬ nI (48 + v) < 48 := nI_nlt (b := 48) (by omega) (by omega)
      have c2 : nI (48 + v) ≤ 57 := nI_le (b := 57) (by omega) (by decide)
      have c3 : nI (48 + v) - 48 = nI v := by
        have : nI (48 + v) = nI v + 48 := by rw [Nat.add_comm]; exact (nI_add v 48).symm
        rw [this, Int32.add_sub_cancel]
      have c4 : nI (numv (xA s r) st j) * 10 + nI v = nI (numv (xA s r) st (j + 1)) := by
        rw [nI_10, nI_add]
        simp only [numv]
        rw [e1, nI_clamp (by omega)]
        congr 1
        omega
      rw [show st + (j + 1) = st + j + 1 by omega] at i1
      simp [X_Words_numberAt_33, BX_Words_numberAt_33, b1, xGetA, tw, w0, xIs, tb, eb, c1, c2, c3, c4, nI_1, i1, xpT, xpL, xpI, xpR, xpA, xpJ, xpO, xpZ, xInt, xN]
    | false =>
      have hnd : digs (xA s r) st (en - st) = false := by
        cases q : digs (xA s r) st (en - st) with
        | false => rfl
        | true => rw [digs_pre (k := j) (by omega) q] at hg; cases hg
      rw [hnd]
      rcases d2 hg with c | c
      · simp [X_Words_numberAt_33, BX_Words_numberAt_33, b1, xGetA, tw, w0, xIs, tb, eb, c, xpT, xpL, xpI, xpR, xpA, xpJ, xpO, xpZ, xInt, xN]
      · by_cases c0 : (xA s r (st + j) &&& 255) < 48
        · simp [X_Words_numberAt_33, BX_Words_numberAt_33, b1, xGetA, tw, w0, xIs, tb, eb, c0, xpT, xpL, xpI, xpR, xpA, xpJ, xpO, xpZ, xInt, xN]
        · simp [X_Words_numberAt_33, BX_Words_numberAt_33, b1, xGetA, tw, w0, xIs, tb, eb, c0, c, xpT, xpL, xpI, xpR, xpA, xpJ, xpO, xpZ, xInt, xN]
theorem X_num_eq (W0 : WoAt s w b r p q n) (hN : nrm (xA s r) n) {i : Nat} (hi : i < wc (xA s r) n) (hF : 10 < F) : X_Words_numberAt F s w (nI i) = some (if 0 ≤ tk (xA s r) (wb (xA s r) n i) (we (xA s r) n i) then tk (xA s r) (wb (xA s r) n i) (we (xA s r) n i) else -1, s) := by
  obtain ⟨e1, e2⟩ := X_startOf_eq (F := F) W0 hi
  have tw := W0.1.1
  have hn := W0.2.2.1
  obtain ⟨f1, f2⟩ := (w_facts (xA s r) n).1 i hi
  have hsub : nI (we (xA s r) n i) - nI (wb (xA s r) n i) = nI (we (xA s r) n i - wb (xA s r) n i) := by
    have : nI (we (xA s r) n i) = nI (we (xA s r) n i - wb (xA s r) n i) + nI (wb (xA s r) n i) := by rw [nI_add]; congr 1; omega
    rw [this, Int32.add_sub_cancel]
  have b1 : ¬ nI (we (xA s r) n i) ≤ nI (wb (xA s r) n i) := nI_ge f1 (by omega)
  obtain ⟨t1, t2⟩ := tk_num (xA s r) (wb (xA s r) n i) (we (xA s r) n i)
  by_cases c : we (xA s r) n i - wb (xA s r) n i ≤ 9
  · have b2 : nI (we (xA s r) n i - wb (xA s r) n i) ≤ 9 := nI_le (b := 9) c (by decide)
    have il := num_loop (F := F) W0 hN (st := wb (xA s r) n i) (en := we (xA s r) n i) f2 c (we (xA s r) n i - wb (xA s r) n i) 0 F (by omega) (by omega) rfl
    simp only [numv, nIk0, Nat.add_zero] at il
    have e3 : isnum (xA s r) (wb (xA s r) n i) (we (xA s r) n i) = digs (xA s r) (wb (xA s r) n i) (we (xA s r) n i - wb (xA s r) n i) := by
      unfold isnum
      have : we (xA s r) n i - wb (xA s r) n i < 10 := by omega
      simp [this]
    rw [← e3] at il
    have : X_Words_numberAt F s w (nI i) = X_Words_numberAt_33 F F s w (nI (we (xA s r) n i)) 0 (nI (wb (xA s r) n i)) := by
      simp [X_Words_numberAt, xIs, tw, e1, e2, b1, hsub, b2]
    rw [this, il]
    cases q : isnum (xA s r) (wb (xA s r) n i) (we (xA s r) n i) with
    | true =>
      have h0 := t1.mp q
      obtain ⟨v, hv, hv2, h3⟩ := t2 h0
      rw [if_pos h0, h3, hv2]
      rfl
    | false =>
      have h0 : ¬ 0 ≤ tk (xA s r) (wb (xA s r) n i) (we (xA s r) n i) := fun h => by rw [t1.mpr h] at q; cases q
      rw [if_neg h0]
      rfl
  · have b2 : ¬ nI (we (xA s r) n i - wb (xA s r) n i) ≤ 9 := nI_ge (b := we (xA s r) n i - wb (xA s r) n i) (a := 9) (by omega) (by omega)
    have h0 : ¬ 0 ≤ tk (xA s r) (wb (xA s r) n i) (we (xA s r) n i) := fun h => by
      have := t1.mpr h
      unfold isnum at this
      simp only [Bool.and_eq_true, decide_eq_true_eq] at this
      omega
    simp [X_Words_numberAt, xIs, tw, e1, e2, b1, hsub, b2, h0]
end TOKX
