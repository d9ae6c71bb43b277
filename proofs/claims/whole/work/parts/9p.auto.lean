/-! READING, AS AN AUTOMATON OVER TOKENS. State: edition so far, what is awaited (0 item, 1 table number, 2 atom, 3 fact name, 4 table name, 5 behind an atom), how much lies around, the relation that waits (0 none), need awaited (0, 1), what waits (newest first: kind, value) -/
abbrev SA : Type := Ed × Nat × Nat × Nat × Nat × List (Nat × Nat)
def rnkK (k : Nat) : Nat := if k = 4 ∨ k = 5 then 1 else if 6 ≤ k ∧ k ≤ 8 then 2 else if k = 2 then 3 else 0
/-- one more step -/
def emt (E : Ed) (k v : Nat) : Ed :=
  (fun j => if j = 2 then E.1 2 + 1 else E.1 j, fun j => if j = 0 then (fun i => if i = E.1 2 then k else E.2 0 i) else if j = 1 then (fun i => if i = E.1 2 then v else E.2 1 i) else if j = 2 then (fun i => if i = E.1 2 + 1 then (if k ≤ 1 then E.2 2 (E.1 2) + 1 else if k = 2 then E.2 2 (E.1 2) else if k < 9 then E.2 2 (E.1 2) - 1 else 0) else E.2 2 i) else E.2 j)
/-- what binds at least so closely waits no longer -/
def stl (r : Nat) : List (Nat × Nat) → Ed → Nat → List (Nat × Nat) × Ed × Nat
  | [], E, ar => ([], E, ar)
  | x :: L, E, ar => if rnkK x.1 < r then (x :: L, E, ar) else stl r L (emt E x.1 x.2) (if x.1 = 2 then ar - 1 else ar)
def setS (E : Ed) (j v : Nat) : Ed := (fun i => if i = j then v else E.1 i, E.2)
def setR (E : Ed) (j i v : Nat) : Ed := (E.1, fun q => if q = j then (fun x => if x = i then v else E.2 j x) else E.2 q)
/-- a table begins; a number more; a rule begins; need; a rule ends -/
def bgT (E : Ed) : Ed := setS (setR E 3 (E.1 3) 0) 3 (E.1 3 + 1)
def adN (E : Ed) (v : Nat) : Ed := setR (setR E 4 (10 * (E.1 3 - 1) + E.2 3 (E.1 3 - 1)) v) 3 (E.1 3 - 1) (E.2 3 (E.1 3 - 1) + 1)
def bgR (E : Ed) (w h : Nat) : Ed := setS (setR (setR (setR (setR (setR (setR E 5 (E.1 4) w) 6 (E.1 4) (E.1 2)) 7 (E.1 4) w) 8 (E.1 4) (E.1 2)) 9 (E.1 4) (E.1 2)) 10 (E.1 4) h) 4 (E.1 4 + 1)
def bgN (E : Ed) : Ed := setR E 8 (E.1 4 - 1) (E.1 2)
def edR (E : Ed) (w : Nat) : Ed := setR (setR E 7 (E.1 4 - 1) w) 9 (E.1 4 - 1) (E.1 2)
def opk (t : Int32) : Nat := if t = -10 then 4 else if t = -11 then 5 else if t = -12 then 6 else if t = -13 then 7 else if t = -14 then 8 else 0
def rlk (t : Int32) : Nat := if t = -15 then 9 else if t = -16 then 10 else if t = -17 then 11 else if t = -18 then 12 else 0
/-- an atom ends -/
def enA (E : Ed) (ar rel nw : Nat) (L : List (Nat × Nat)) : SA := ((stl 3 L E ar).2.1, 5, (stl 3 L E ar).2.2, rel, nw, (stl 3 L E ar).1)
/-- behind an atom, no operator, nothing around, settled -/
def tbS (E : Ed) (rel nw : Nat) (L : List (Nat × Nat)) (ar w : Nat) (t : Int32) : Option SA :=
  if rel = 0 then (if rlk t = 0 then none else some (E, 2, ar, rlk t, nw, L))
  else if t = -5 then some (emt E rel 0, 2, ar, 0, nw, L)
  else if nw = 1 then (if t = -4 then some (bgN (emt E rel 0), 2, ar, 0, 0, L) else none)
  else if t = -19 then some (edR (emt E rel 0) w, 0, ar, 0, nw, L) else none
def tb (E : Ed) (ar rel nw : Nat) (L : List (Nat × Nat)) (w : Nat) (t : Int32) : Option SA :=
  if opk t ≠ 0 then some ((stl (rnkK (opk t)) L E ar).2.1, 2, (stl (rnkK (opk t)) L E ar).2.2, rel, nw, (opk t, 0) :: (stl (rnkK (opk t)) L E ar).1)
  else if 0 < ar then (if t = -9 then (match (stl 1 L E ar).1 with
      | x :: L2 => if x.1 = 3 then some (enA (stl 1 L E ar).2.1 ((stl 1 L E ar).2.2 - 1) rel nw L2) else none
      | [] => none) else none)
  else tbS (stl 1 L E ar).2.1 rel nw (stl 1 L E ar).1 (stl 1 L E ar).2.2 w t
/-- a word -/
def ta (S : SA) (w : Nat) (t : Int32) : Option SA :=
  if S.2.1 = 0 then (if t = -1 then (if S.1.1 3 < 8 then some (bgT S.1, 1, S.2.2) else none) else if t = -3 then (if S.1.1 4 < 12 then some (bgR S.1 w 1, 2, S.2.2.1, S.2.2.2.1, 1, S.2.2.2.2.2) else none) else if t = -2 then (if S.1.1 4 < 12 then some (bgR S.1 w 0, 2, S.2.2.1, S.2.2.2.1, 0, S.2.2.2.2.2) else none) else none)
  else if S.2.1 = 1 then (if t = -19 then (if 0 < S.1.2 3 (S.1.1 3 - 1) then some (S.1, 0, S.2.2) else none) else if 0 ≤ t then (if S.1.2 3 (S.1.1 3 - 1) < 10 then some (adN S.1 t.toNatClampNeg, 1, S.2.2) else none) else none)
  else if S.2.1 = 2 then (if 12 < S.2.2.1 then none else if 0 ≤ t then some (enA (emt S.1 0 t.toNatClampNeg) S.2.2.1 S.2.2.2.1 S.2.2.2.2.1 S.2.2.2.2.2) else if t = -6 then some (S.1, 3, S.2.2) else if t = -7 then some (S.1, 4, S.2.2) else if t = -8 then some (S.1, 2, S.2.2.1 + 1, S.2.2.2.1, S.2.2.2.2.1, (3, 0) :: S.2.2.2.2.2) else none)
  else if S.2.1 = 3 then (if 0 ≤ t ∧ t < 20 then some (enA (emt S.1 1 t.toNatClampNeg) S.2.2.1 S.2.2.2.1 S.2.2.2.2.1 S.2.2.2.2.2) else none)
  else if S.2.1 = 4 then (if 0 ≤ t ∧ t < nI (S.1.1 3) then some (S.1, 2, S.2.2.1 + 1, S.2.2.2.1, S.2.2.2.2.1, (2, t.toNatClampNeg) :: S.2.2.2.2.2) else none)
  else tb S.1 S.2.2.1 S.2.2.2.1 S.2.2.2.2.1 S.2.2.2.2.2 w t
/-- d words from w on: the word that is wrong, or the edition -/
def run (tok : Nat → Int32) : Nat → Nat → SA → Nat ⊕ SA
  | 0, w, S => if S.2.1 = 0 then .inr S else .inl w
  | d + 1, w, S => match ta S w (tok w) with
    | none => .inl w
    | some S2 => run tok d (w + 1) S2
/-! WELL FORMED -/
def isOp (k : Nat) : Bool := decide (4 ≤ k) && decide (k < 9)
/-- operators that wait; what lies around -/
def nOp : List (Nat × Nat) → Nat
  | [] => 0
  | x :: L => nOp L + if isOp x.1 then 1 else 0
def nAr : List (Nat × Nat) → Nat
  | [] => 0
  | x :: L => nAr L + if isOp x.1 then 0 else 1
def hd (L : List (Nat × Nat)) : Nat := match L with
  | [] => 3
  | x :: _ => x.1
/-- what may wait while an atom is awaited -/
def wa (tc : Nat) : List (Nat × Nat) → Prop
  | [] => True
  | x :: L => wa tc L ∧ (x.1 = 3 ∧ x.2 = 0 ∨ x.1 = 2 ∧ x.2 < tc ∨ (x.1 = 4 ∨ x.1 = 5) ∧ x.2 = 0 ∧ hd L = 3 ∨ (6 ≤ x.1 ∧ x.1 < 9) ∧ x.2 = 0 ∧ (hd L = 3 ∨ hd L = 4 ∨ hd L = 5))
theorem wa_bound {tc : Nat} : ∀ {L : List (Nat × Nat)}, wa tc L → nOp L ≤ 2 * nAr L + 2 ∧ (hd L = 3 ∨ hd L = 2 → nOp L ≤ 2 * nAr L) ∧ (hd L = 4 ∨ hd L = 5 → nOp L ≤ 2 * nAr L + 1) := by
  intro L
  induction L with
  | nil => intro _; simp [nOp, nAr]
  | cons x L ih =>
    intro h
    obtain ⟨h1, h2⟩ := h
    obtain ⟨i1, i2, i3⟩ := ih h1
    simp only [nOp, nAr, hd]
    rcases h2 with ⟨h, -⟩ | ⟨h, -⟩ | ⟨h, -, h3⟩ | ⟨h, -, h3⟩
    · rw [h]; simp [isOp]; omega
    · rw [h]; simp [isOp]; omega
    · have : isOp x.1 = true := by simp [isOp]; omega
      have := i2 (Or.inl h3)
      simp [*]; omega
    · have : isOp x.1 = true := by simp [isOp]; omega
      simp only [this, if_true]
      refine ⟨?_, ?_, ?_⟩
      · rcases h3 with h3 | h3
        · have := i2 (Or.inl h3); omega
        · have := i3 h3; omega
      · intro q; omega
      · intro q; omega
