/-! THE STATES OF CLASS AND REFERENCE SIDE BY SIDE. Roles: a r is the address of role r: 0 the object, 1 book, 2 facts (3 values, 4 told), 5 reckoner (6 values), 7 latest (8 .. 11), 12 trial (13 .. 16), 17 line (18), 19 hauls (20), 21 tape (22 bytes, 23 row, 24 starts, 25 ends), 26 the draft (its words 21), its steps 27 (28, 29), its tables 30 (31, 32), its rules 33, 34 the reader, 35 what waits (36, 37); 100 (e + 1) + j the cells of edition e -/
def tg (r : Nat) : Nat := match r with
  | 0 => 12 | 1 => 41 | 2 => 3 | 3 => 23 | 4 => 22 | 5 => 6 | 6 => 23 | 7 => 4 | 8 => 20 | 9 => 20 | 10 => 20 | 11 => 20
  | 12 => 4 | 13 => 20 | 14 => 20 | 15 => 20 | 16 => 20 | 17 => 1 | 18 => 21 | 19 => 5 | 20 => 23 | 21 => 11 | 22 => 1 | 23 => 21 | 24 => 20 | 25 => 20
  | 26 => 2 | 27 => 8 | 28 => 20 | 29 => 20 | 30 => 9 | 31 => 20 | 32 => 20 | 33 => 46 | 34 => 10 | 35 => 8 | 36 => 20 | 37 => 20
  | _ => 0
def tgE (j : Nat) : Nat := match j with
  | 0 => 2 | 1 => 11 | 2 => 1 | 3 => 21 | 4 => 20 | 5 => 20 | 6 => 8 | 7 => 20 | 8 => 20 | 9 => 9 | 10 => 20 | 11 => 20 | 12 => 46 | _ => 7
def ln (r : Nat) : Nat := match r with
  | 1 => 6 | 3 => 20 | 4 => 20 | 6 => 64 | 8 => 12 | 9 => 12 | 10 => 12 | 11 => 12 | 13 => 12 | 14 => 12 | 15 => 12 | 16 => 12 | 18 => 800 | 20 => 80 | 23 => 800 | 24 => 400 | 25 => 400 | 28 => 400 | 29 => 400 | 31 => 80 | 32 => 8 | 33 => 12 | 36 => 400 | 37 => 400
  | _ => 0
def lnE (j : Nat) : Nat := match j with
  | 3 => 800 | 4 => 400 | 5 => 400 | 7 => 400 | 8 => 400 | 10 => 80 | 11 => 8 | 12 => 12 | _ => 0
def rf (r k : Nat) : Option Nat := match r, k with
  | 0, 0 => some 1 | 0, 2 => some 26 | 0, 3 => some 34 | 0, 4 => some 2 | 0, 5 => some 5 | 0, 6 => some 7 | 0, 7 => some 12 | 0, 8 => some 17 | 0, 9 => some 19
  | 26, 0 => some 21 | 26, 1 => some 27 | 26, 2 => some 30 | 26, 3 => some 33 | 27, 0 => some 28 | 27, 1 => some 29 | 30, 0 => some 31 | 30, 1 => some 32 | 34, 0 => some 35 | 35, 0 => some 36 | 35, 1 => some 37
  | 2, 0 => some 3 | 2, 1 => some 4 | 5, 0 => some 2 | 5, 1 => some 6 | 7, 0 => some 8 | 7, 1 => some 9 | 7, 2 => some 10 | 7, 3 => some 11
  | 12, 0 => some 13 | 12, 1 => some 14 | 12, 2 => some 15 | 12, 3 => some 16 | 17, 0 => some 18 | 19, 0 => some 20 | 21, 0 => some 22 | 21, 1 => some 24 | 21, 2 => some 25 | 22, 0 => some 23
  | _, _ => none
def rfE (j k : Nat) : Option Nat := match j, k with
  | 0, 0 => some 1 | 0, 1 => some 6 | 0, 2 => some 9 | 0, 3 => some 12 | 1, 0 => some 2 | 1, 1 => some 4 | 1, 2 => some 5 | 2, 0 => some 3 | 6, 0 => some 7 | 6, 1 => some 8 | 9, 0 => some 10 | 9, 1 => some 11
  | _, _ => none
/-- the role of cell j of edition e -/
def eR (e j : Nat) : Nat := 100 * (e + 1) + j
/-- the roles that are there: n editions, rc e rules in edition e -/
def Dm (n : Nat) (rc : Nat → Nat) (r : Nat) : Prop := r < 38 ∨ ∃ e j, e < n ∧ j < 13 + rc e ∧ r = eR e j
def Sh (s : XS) (a : Nat → Nat) (n : Nat) (rc : Nat → Nat) : Prop :=
  (∀ r, r < 38 → xT s (a r) = tg r ∧ (20 ≤ tg r → xL s (a r) = ln r)) ∧ (∀ r k q, rf r k = some q → xR s (a r) k = some (a q)) ∧
  (∀ e j, e < n → j < 13 + rc e → xT s (a (eR e j)) = tgE j ∧ (20 ≤ tgE j → xL s (a (eR e j)) = lnE j)) ∧ (∀ e j k q, e < n → rfE j k = some q → xR s (a (eR e j)) k = some (a (eR e q))) ∧
  (∀ e k, e < n → k < rc e → xO s (a (eR e 12)) k = some (a (eR e (13 + k)))) ∧ (∀ e, e < n → xO s (a 1) e = some (a (eR e 0))) ∧ (∀ e, n ≤ e → xO s (a 1) e = none) ∧ (∀ e, e < n → rc e ≤ 12) ∧ n ≤ 6 ∧
  (∀ r, Dm n rc r → a r < xZ s) ∧ ∀ i j, Dm n rc i → Dm n rc j → a i = a j → i = j
section SHL
variable {s : XS} {a : Nat → Nat} {n : Nat} {rc : Nat → Nat}
theorem Sh.t (H : Sh s a n rc) (r : Nat) {t : Nat} (hr : r < 38 := by decide) (ht : tg r = t := by rfl) : xT s (a r) = t := ht ▸ (H.1 r hr).1
theorem Sh.l (H : Sh s a n rc) (r : Nat) {t : Nat} (hr : r < 38 := by decide) (hg : 20 ≤ tg r := by decide) (ht : ln r = t := by rfl) : xL s (a r) = t := ht ▸ (H.1 r hr).2 hg
theorem Sh.r (H : Sh s a n rc) (r k : Nat) {q : Nat} (hq : rf r k = some q := by rfl) : xR s (a r) k = some (a q) := H.2.1 r k q hq
theorem Sh.ne (H : Sh s a n rc) {i j : Nat} (hi : i < 38 := by decide) (hj : j < 38 := by decide) (h : i ≠ j := by decide) : a i ≠ a j := fun e => h (H.2.2.2.2.2.2.2.2.2.2 i j (Or.inl hi) (Or.inl hj) e)
theorem Sh.neE (H : Sh s a n rc) {i e j : Nat} (he : e < n) (hj : j < 13 + rc e) (hi : i < 38) : a (eR e j) ≠ a i := fun q => by
  have := H.2.2.2.2.2.2.2.2.2.2 _ _ (Or.inr ⟨e, j, he, hj, rfl⟩) (Or.inl hi) q
  unfold eR at this
  omega
/-- what a call that makes nothing leaves as it is -/
theorem Sh.keep (H : Sh s a n rc) {s2 : XS} (hT : xT s2 = xT s) (hL : xL s2 = xL s) (hR : xR s2 = xR s) (hO : xO s2 = xO s) (hZ : xZ s2 = xZ s) : Sh s2 a n rc := by
  unfold Sh
  rw [hT, hL, hR, hO, hZ]
  exact H
end SHL
theorem ix20 (x : Int32) : x < 0 ∨ 20 ≤ x ∨ ∃ j : Nat, j < 20 ∧ x = nI j := by
  rcases pk_ix x (n := 20) (by decide) with h | h | h
  · exact Or.inl h
  · exact Or.inr (Or.inl h)
  · exact Or.inr (Or.inr h)
theorem xpT (t l : Nat → Nat) (i : Nat → Nat → Int32) (r : Nat → Nat → Option Nat) (b : Nat → Nat → Int32) (j : Nat → Nat → Int64) (o : Nat → Nat → Option Nat) (z : Nat) : xT (t, l, i, r, b, j, o, z) = t := rfl
theorem xpL (t l : Nat → Nat) (i : Nat → Nat → Int32) (r : Nat → Nat → Option Nat) (b : Nat → Nat → Int32) (j : Nat → Nat → Int64) (o : Nat → Nat → Option Nat) (z : Nat) : xL (t, l, i, r, b, j, o, z) = l := rfl
theorem xpI (t l : Nat → Nat) (i : Nat → Nat → Int32) (r : Nat → Nat → Option Nat) (b : Nat → Nat → Int32) (j : Nat → Nat → Int64) (o : Nat → Nat → Option Nat) (z : Nat) : xI (t, l, i, r, b, j, o, z) = i := rfl
theorem xpR (t l : Nat → Nat) (i : Nat → Nat → Int32) (r : Nat → Nat → Option Nat) (b : Nat → Nat → Int32) (j : Nat → Nat → Int64) (o : Nat → Nat → Option Nat) (z : Nat) : xR (t, l, i, r, b, j, o, z) = r := rfl
theorem xpA (t l : Nat → Nat) (i : Nat → Nat → Int32) (r : Nat → Nat → Option Nat) (b : Nat → Nat → Int32) (j : Nat → Nat → Int64) (o : Nat → Nat → Option Nat) (z : Nat) : xA (t, l, i, r, b, j, o, z) = b := rfl
theorem xpJ (t l : Nat → Nat) (i : Nat → Nat → Int32) (r : Nat → Nat → Option Nat) (b : Nat → Nat → Int32) (j : Nat → Nat → Int64) (o : Nat → Nat → Option Nat) (z : Nat) : xJ (t, l, i, r, b, j, o, z) = j := rfl
theorem xpO (t l : Nat → Nat) (i : Nat → Nat → Int32) (r : Nat → Nat → Option Nat) (b : Nat → Nat → Int32) (j : Nat → Nat → Int64) (o : Nat → Nat → Option Nat) (z : Nat) : xO (t, l, i, r, b, j, o, z) = o := rfl
theorem xpZ (t l : Nat → Nat) (i : Nat → Nat → Int32) (r : Nat → Nat → Option Nat) (b : Nat → Nat → Int32) (j : Nat → Nat → Int64) (o : Nat → Nat → Option Nat) (z : Nat) : xZ (t, l, i, r, b, j, o, z) = z := rfl
