/-! AN EDITION AS DATA: scalars 0 day, 1 bytes, 2 steps, 3 tables, 4 rules; rows 0 kinds, 1 values, 2 heights, 3 table sizes, 4 table numbers, 5 first word, 6 start, 7 end word, 8 need, 9 end, 10 has when -/
abbrev Ed : Type := (Nat → Nat) × (Nat → Nat → Nat)
/-- the reference's code of a kind -/
def rk (k : Nat) : Int32 := match k with
  | 0 => -21 | 1 => -6 | 2 => -7 | 3 => -8 | 4 => -10 | 5 => -11 | 6 => -12 | 7 => -13 | 8 => -14 | 9 => -15 | 10 => -16 | 11 => -17 | _ => -18
def ESh (s : XS) (f : Nat → Nat) (rc : Nat) : Prop :=
  (∀ j, j < 13 + rc → xT s (f j) = tgE j ∧ (20 ≤ tgE j → xL s (f j) = lnE j)) ∧ (∀ j k q, rfE j k = some q → xR s (f j) k = some (f q)) ∧ (∀ k, k < rc → xO s (f 12) k = some (f (13 + k))) ∧ rc ≤ 12
theorem tgE_rule (k : Nat) : tgE (13 + k) = 7 := by
  unfold tgE
  split <;> first | omega | rfl
section ESHL
variable {s : XS} {f : Nat → Nat} {rc : Nat}
theorem ESh.t (H : ESh s f rc) (r : Nat) {t : Nat} (hr : r < 13 := by decide) (ht : tgE r = t := by rfl) : xT s (f r) = t := ht ▸ (H.1 r (by omega)).1
theorem ESh.l (H : ESh s f rc) (r : Nat) {t : Nat} (hr : r < 13 := by decide) (hg : 20 ≤ tgE r := by decide) (ht : lnE r = t := by rfl) : xL s (f r) = t := ht ▸ (H.1 r (by omega)).2 hg
theorem ESh.r (H : ESh s f rc) (r k : Nat) {q : Nat} (hq : rfE r k = some q := by rfl) : xR s (f r) k = some (f q) := H.2.1 r k q hq
theorem ESh.rt (H : ESh s f rc) {k : Nat} (hk : k < rc) : xT s (f (13 + k)) = 7 := by rw [(H.1 (13 + k) (by omega)).1, tgE_rule]
theorem ESh.keep (H : ESh s f rc) {s2 : XS} (hT : xT s2 = xT s) (hL : xL s2 = xL s) (hR : xR s2 = xR s) (hO : xO s2 = xO s) : ESh s2 f rc := by
  unfold ESh
  rw [hT, hL, hR, hO]
  exact H
end ESHL
theorem Sh.ed {s : XS} {a : Nat → Nat} {n : Nat} {rc : Nat → Nat} (H : Sh s a n rc) {e : Nat} (he : e < n) : ESh s (fun j => a (eR e j)) (rc e) :=
  ⟨fun j hj => H.2.2.1 e j he hj, fun j k q h => H.2.2.2.1 e j k q he h, fun k hk => H.2.2.2.2.1 e k he hk, H.2.2.2.2.2.2.2.1 e he⟩
/-- the class's edition at the cells f is E -/
def CE (s : XS) (f : Nat → Nat) (E : Ed) : Prop :=
  (xI s (f 0) 5 = nI (E.1 0) ∧ xI s (f 0) 4 = nI (E.1 4)) ∧
  (xI s (f 6) 2 = nI (E.1 2) ∧ ∀ i, i < E.1 2 → xA s (f 7) i = nI (E.2 0 i) ∧ xA s (f 8) i = if E.2 0 i ≤ 2 then nI (E.2 1 i) else -1) ∧
  (xI s (f 9) 2 = nI (E.1 3) ∧ ∀ t, t < E.1 3 → xA s (f 11) t = nI (E.2 3 t) ∧ ∀ k, k < E.2 3 t → xA s (f 10) (10 * t + k) = nI (E.2 4 (10 * t + k))) ∧
  ∀ k, k < E.1 4 → xI s (f (13 + k)) 0 = nI (E.2 5 k) ∧ xI s (f (13 + k)) 1 = nI (E.2 6 k) ∧ xI s (f (13 + k)) 2 = nI (E.2 7 k) ∧ xI s (f (13 + k)) 3 = nI (E.2 8 k) ∧ xI s (f (13 + k)) 4 = nI (E.2 9 k)
/-- the reference's edition e is E -/
def NE (m : MS) (e : Nat) (E : Ed) : Prop :=
  (m.2.1 4 e = nI (E.1 0) ∧ m.2.1 13 e = nI (E.1 4) ∧ m.2.1 10 e = nI (E.1 3)) ∧
  (∀ i, i < E.1 2 → m.2.1 19 (400 * e + i) = rk (E.2 0 i) ∧ (E.2 0 i ≤ 2 → m.2.1 20 (400 * e + i) = nI (E.2 1 i))) ∧
  (∀ t, t < E.1 3 → m.2.1 11 (8 * e + t) = nI (E.2 3 t) ∧ ∀ k, k < E.2 3 t → m.2.1 12 (80 * e + 10 * t + k) = nI (E.2 4 (10 * t + k))) ∧
  ∀ k, k < E.1 4 → m.2.1 17 (12 * e + k) = nI (E.2 5 k) ∧ m.2.1 14 (12 * e + k) = nI (E.2 6 k) ∧ m.2.1 18 (12 * e + k) + 1 = nI (E.2 7 k) ∧ (m.2.1 15 (12 * e + k) = if E.2 10 k = 0 then -1 else nI (E.2 8 k)) ∧ m.2.1 16 (12 * e + k) = nI (E.2 9 k)
/-- the steps are well formed: step i -/
def WS (E : Ed) (i : Nat) : Prop :=
  (E.2 0 i = 0 ∧ E.2 1 i < 1000000000 ∧ E.2 2 (i + 1) = E.2 2 i + 1 ∨ E.2 0 i = 1 ∧ E.2 1 i < 20 ∧ E.2 2 (i + 1) = E.2 2 i + 1 ∨ E.2 0 i = 2 ∧ E.2 1 i < E.1 3 ∧ 1 ≤ E.2 2 i ∧ E.2 2 (i + 1) = E.2 2 i ∨ 4 ≤ E.2 0 i ∧ E.2 0 i < 9 ∧ 2 ≤ E.2 2 i ∧ E.2 2 (i + 1) + 1 = E.2 2 i ∨ 9 ≤ E.2 0 i ∧ E.2 0 i ≤ 12 ∧ E.2 2 i = 2 ∧ E.2 2 (i + 1) = 0) ∧ E.2 2 (i + 1) ≤ 64
def WT (E : Ed) (t : Nat) : Prop := E.2 3 t ≤ 10 ∧ ∀ k, k < E.2 3 t → E.2 4 (10 * t + k) < 1000000000
def WR (E : Ed) (k : Nat) : Prop := E.2 6 k ≤ E.2 8 k ∧ E.2 8 k ≤ E.2 9 k ∧ E.2 9 k ≤ E.1 2 ∧ E.2 2 (E.2 6 k) = 0 ∧ E.2 2 (E.2 8 k) = 0 ∧ (E.2 10 k = 0 → E.2 8 k = E.2 6 k)
def WE (E : Ed) : Prop := E.1 0 ≤ 100000 ∧ E.1 2 ≤ 400 ∧ E.1 3 ≤ 8 ∧ E.1 4 ≤ 12 ∧ (∀ i, i < E.1 2 → WS E i) ∧ (∀ t, t < E.1 3 → WT E t) ∧ ∀ k, k < E.1 4 → WR E k
/-! ONE STEP, AND MANY -/
def cb (k : Nat) (x y : Int64) : Int64 := if k = 4 then x + y else if k = 5 then x - y else if k = 6 then x * y else if k = 7 then x / y else x - x / y * y
def rl (k : Nat) (x y : Int64) : Bool := if k = 9 then decide (x < y) else if k = 10 then decide (x ≤ y) else if k = 11 then decide (x = y) else !decide (x = y)
/-- code (0 go on, 1 broken, 2 open), reason, what is lacking, height and values behind step i -/
def s1 (E : Ed) (fv : Nat → Int64) (ft : Nat → Int32) (i top : Nat) (p : Nat → Int64) : Int32 × Int32 × Int32 × Nat × (Nat → Int64) :=
  if E.2 0 i = 0 then (0, -1, -1, top + 1, vp_updL p top (nI (E.2 1 i)).toInt64)
  else if E.2 0 i = 1 then (if ft (E.2 1 i) = 0 then (2, 3, nI (E.2 1 i), top, p) else (0, -1, -1, top + 1, vp_updL p top (fv (E.2 1 i))))
  else if E.2 0 i = 2 then (if p (top - 1) < 0 ∨ (nI (E.2 3 (E.2 1 i))).toInt64 ≤ p (top - 1) then (2, 2, -1, top, p) else (0, -1, -1, top, vp_updL p (top - 1) (nI (E.2 4 (10 * E.2 1 i + (p (top - 1)).toNatClampNeg))).toInt64))
  else if E.2 0 i < 9 then (if 7 ≤ E.2 0 i ∧ p (top - 1) = 0 then (2, 1, -1, top, p) else (0, -1, -1, top - 1, vp_updL p (top - 2) (cb (E.2 0 i) (p (top - 2)) (p (top - 1)))))
  else if rl (E.2 0 i) (p (top - 2)) (p (top - 1)) then (0, -1, -1, top - 2, p) else (1, -1, -1, top, p)
/-- code, reason, what is lacking, where it stopped, height, values -/
def sL (E : Ed) (fv : Nat → Int64) (ft : Nat → Int32) : Nat → Nat → Nat → (Nat → Int64) → Int32 × Int32 × Int32 × Nat × Nat × (Nat → Int64)
  | 0, i, top, p => (0, -1, -1, i, top, p)
  | n + 1, i, top, p => if (s1 E fv ft i top p).1 = 0 then sL E fv ft n (i + 1) (s1 E fv ft i top p).2.2.2.1 (s1 E fv ft i top p).2.2.2.2 else ((s1 E fv ft i top p).1, (s1 E fv ft i top p).2.1, (s1 E fv ft i top p).2.2.1, i, top, p)
theorem sL_split (E : Ed) (fv : Nat → Int64) (ft : Nat → Int32) : ∀ (n k i top : Nat) (p : Nat → Int64), sL E fv ft (n + k) i top p = if (sL E fv ft n i top p).1 = 0 then sL E fv ft k (i + n) (sL E fv ft n i top p).2.2.2.2.1 (sL E fv ft n i top p).2.2.2.2.2 else sL E fv ft n i top p := by
  intro n
  induction n with
  | zero => intro k i top p; simp [sL]
  | succ n ih =>
    intro k i top p
    have e : n + 1 + k = (n + k) + 1 := by omega
    rw [e]
    simp only [sL]
    by_cases h : (s1 E fv ft i top p).1 = 0
    · simp only [h, if_true]
      rw [ih]
      have e2 : i + 1 + n = i + (n + 1) := by omega
      rw [e2]
    · simp only [h, if_false]
/-- the values below the height alone matter -/
theorem s1_top {E : Ed} {fv : Nat → Int64} {ft : Nat → Int32} {i : Nat} {p : Nat → Int64} (w : WS E i) (h : (s1 E fv ft i (E.2 2 i) p).1 = 0) : (s1 E fv ft i (E.2 2 i) p).2.2.2.1 = E.2 2 (i + 1) := by
  unfold s1 at h ⊢
  obtain ⟨w, -⟩ := w
  rcases w with ⟨w1, w2, w3⟩ | ⟨w1, w2, w3⟩ | ⟨w1, w2, w3, w4⟩ | ⟨w1, w2, w3, w4⟩ | ⟨w1, w2, w3, w4⟩
  · simp [w1, w3]
  · have n0 : ¬ (1 : Nat) = 0 := by decide
    rw [w1] at h ⊢
    by_cases c : ft (E.2 1 i) = 0
    · simp [c] at h
    · simp [c, w3]
  · rw [w1] at h ⊢
    by_cases c : p (E.2 2 i - 1) < 0 ∨ (nI (E.2 3 (E.2 1 i))).toInt64 ≤ p (E.2 2 i - 1)
    · simp [c] at h
    · simp [c, w4]
  · have n0 : ¬ E.2 0 i = 0 := by omega
    have n1 : ¬ E.2 0 i = 1 := by omega
    have n2 : ¬ E.2 0 i = 2 := by omega
    by_cases c : 7 ≤ E.2 0 i ∧ p (E.2 2 i - 1) = 0
    · simp [n0, n1, n2, w2, c] at h
    · simp only [n0, n1, n2, w2, c, if_true, if_false]
      omega
  · have n0 : ¬ E.2 0 i = 0 := by omega
    have n1 : ¬ E.2 0 i = 1 := by omega
    have n2 : ¬ E.2 0 i = 2 := by omega
    have n3 : ¬ E.2 0 i < 9 := by omega
    by_cases c : rl (E.2 0 i) (p (E.2 2 i - 2)) (p (E.2 2 i - 1)) = true
    · simp only [n0, n1, n2, n3, c, if_true, if_false]
      omega
    · simp [n0, n1, n2, n3, c] at h
theorem s1_code (E : Ed) (fv : Nat → Int64) (ft : Nat → Int32) (i top : Nat) (p : Nat → Int64) : (s1 E fv ft i top p).1 = 0 ∨ (s1 E fv ft i top p).1 = 1 ∨ (s1 E fv ft i top p).1 = 2 := by
  unfold s1
  repeat' split
  all_goals simp
theorem sL_code (E : Ed) (fv : Nat → Int64) (ft : Nat → Int32) : ∀ (n i top : Nat) (p : Nat → Int64), (sL E fv ft n i top p).1 = 0 ∨ (sL E fv ft n i top p).1 = 1 ∨ (sL E fv ft n i top p).1 = 2 := by
  intro n
  induction n with
  | zero => intro i top p; left; rfl
  | succ n ih =>
    intro i top p
    simp only [sL]
    by_cases h : (s1 E fv ft i top p).1 = 0
    · simp only [h, if_true]; exact ih _ _ _
    · rw [if_neg h]; exact s1_code E fv ft i top p
theorem sL_at (E : Ed) (fv : Nat → Int64) (ft : Nat → Int32) : ∀ (n i top : Nat) (p : Nat → Int64), i ≤ (sL E fv ft n i top p).2.2.2.1 ∧ ((sL E fv ft n i top p).1 ≠ 0 → (sL E fv ft n i top p).2.2.2.1 < i + n) ∧ ((sL E fv ft n i top p).1 = 0 → (sL E fv ft n i top p).2.2.2.1 = i + n) := by
  intro n
  induction n with
  | zero => intro i top p; simp [sL]
  | succ n ih =>
    intro i top p
    simp only [sL]
    by_cases h : (s1 E fv ft i top p).1 = 0
    · simp only [h, if_true]
      obtain ⟨h1, h2, h3⟩ := ih (i + 1) (s1 E fv ft i top p).2.2.2.1 (s1 E fv ft i top p).2.2.2.2
      exact ⟨by omega, fun q => by have := h2 q; omega, fun q => by have := h3 q; omega⟩
    · rw [if_neg h]
      exact ⟨by simp, fun _ => by simp, fun q => absurd q h⟩
