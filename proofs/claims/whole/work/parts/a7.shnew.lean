/-! ONE MORE EDITION, A NEW TAPE -/
def aN (a : Nat → Nat) (n z Z : Nat) (r : Nat) : Nat :=
  if 21 ≤ r ∧ r ≤ 25 then Z + (r - 21) else if 100 * (n + 1) ≤ r ∧ r < 100 * (n + 2) then fe z (a 21) (a 22) (a 23) (a 24) (a 25) (r - 100 * (n + 1)) else a r
/-- s6 is s3 but for the object's number of editions and tape, and the book -/
def Nw (s3 s6 : XS) (a0 a1 n z Z : Nat) : Prop := ∀ c, c < Z → xT s6 c = xT s3 c ∧ xL s6 c = xL s3 c ∧ (∀ k, xI s6 c k = if c = a0 ∧ k = 1 then nI (n + 1) else xI s3 c k) ∧ (∀ k, xR s6 c k = if c = a0 ∧ k = 2 then some Z else xR s3 c k) ∧ xA s6 c = xA s3 c ∧ xJ s6 c = xJ s3 c ∧ ∀ k, xO s6 c k = if c = a1 ∧ k = n then some z else xO s3 c k
section SHNEW
variable {s s3 s6 : XS} {a : Nat → Nat} {n : Nat} {rc : Nat → Nat} {z Z rn : Nat}
theorem aN_o {r : Nat} (h : r < 21) : aN a n z Z r = a r := by
  unfold aN
  rw [if_neg (by omega), if_neg (by omega)]
theorem aN_e {e j : Nat} (he : e < n) (hj : j < 100) : aN a n z Z (eR e j) = a (eR e j) := by
  unfold aN eR
  rw [if_neg (by omega), if_neg (by omega)]
theorem aN_n {j : Nat} (hj : j < 100) : aN a n z Z (eR n j) = fe z (a 21) (a 22) (a 23) (a 24) (a 25) j := by
  unfold aN eR
  rw [if_neg (by omega), if_pos (by omega)]
  congr 1
  omega
theorem aN_t {i : Nat} (hi : i < 5) : aN a n z Z (21 + i) = Z + i := by
  unfold aN
  rw [if_pos (by omega)]
  omega
/-- where the cells of the new edition lie -/
theorem fe_cases {j : Nat} (hj : j < 13 + rn) : (1 ≤ j ∧ j ≤ 5 ∧ fe z (a 21) (a 22) (a 23) (a 24) (a 25) j = a (20 + j)) ∨ (j = 0 ∧ fe z (a 21) (a 22) (a 23) (a 24) (a 25) j = z) ∨ (6 ≤ j ∧ j ≤ 12 ∧ fe z (a 21) (a 22) (a 23) (a 24) (a 25) j + 5 = z + j) ∨ (13 ≤ j ∧ fe z (a 21) (a 22) (a 23) (a 24) (a 25) j + 1 = z + j) := by
  have h : j = 0 ∨ j = 1 ∨ j = 2 ∨ j = 3 ∨ j = 4 ∨ j = 5 ∨ j = 6 ∨ j = 7 ∨ j = 8 ∨ j = 9 ∨ j = 10 ∨ j = 11 ∨ j = 12 ∨ ∃ k, j = 13 + k := by
    by_cases c : j < 13
    · omega
    · exact Or.inr (Or.inr (Or.inr (Or.inr (Or.inr (Or.inr (Or.inr (Or.inr (Or.inr (Or.inr (Or.inr (Or.inr (Or.inr ⟨j - 13, by omega⟩))))))))))))
  rcases h with h | h | h | h | h | h | h | h | h | h | h | h | h | ⟨k, h⟩
  · subst h; right; left; exact ⟨rfl, rfl⟩
  · subst h; left; exact ⟨by omega, by omega, rfl⟩
  · subst h; left; exact ⟨by omega, by omega, rfl⟩
  · subst h; left; exact ⟨by omega, by omega, rfl⟩
  · subst h; left; exact ⟨by omega, by omega, rfl⟩
  · subst h; left; exact ⟨by omega, by omega, rfl⟩
  · subst h; right; right; left; exact ⟨by omega, by omega, rfl⟩
  · subst h; right; right; left; exact ⟨by omega, by omega, rfl⟩
  · subst h; right; right; left; exact ⟨by omega, by omega, rfl⟩
  · subst h; right; right; left; exact ⟨by omega, by omega, rfl⟩
  · subst h; right; right; left; exact ⟨by omega, by omega, rfl⟩
  · subst h; right; right; left; exact ⟨by omega, by omega, rfl⟩
  · subst h; right; right; left; exact ⟨by omega, by omega, rfl⟩
  · subst h; right; right; right
    refine ⟨by omega, ?_⟩
    rw [fe_r]; omega
def rcN (rc : Nat → Nat) (n rn : Nat) (e : Nat) : Nat := if e = n then rn else rc e
theorem rcN_n : rcN rc n rn n = rn := by simp [rcN]
theorem rcN_o {e : Nat} (h : e < n) : rcN rc n rn e = rc e := by
  have : ¬ e = n := by omega
  simp [rcN, this]
theorem aN_key (H : Sh s a n rc) (hz : z = xZ s) (hZ : Z = z + 12 + rn) (hrn : rn ≤ 12) {r : Nat} (h : Dm (n + 1) (rcN rc n rn) r) :
    (∃ ρ, Dm n rc ρ ∧ aN a n z Z r = a ρ ∧ (ρ = r ∧ ¬ (21 ≤ r ∧ r ≤ 25) ∧ r < 100 * (n + 1) ∨ ∃ j, 1 ≤ j ∧ j ≤ 5 ∧ r = 100 * (n + 1) + j ∧ ρ = 20 + j)) ∨
    (z ≤ aN a n z Z r ∧ aN a n z Z r < Z + 5 ∧ ((21 ≤ r ∧ r ≤ 25 ∧ aN a n z Z r + 21 = Z + r) ∨ (r = 100 * (n + 1) ∧ aN a n z Z r = z) ∨ (∃ j, 6 ≤ j ∧ j ≤ 12 ∧ r = 100 * (n + 1) + j ∧ aN a n z Z r + 5 = z + j) ∨ ∃ j, 13 ≤ j ∧ j < 13 + rn ∧ r = 100 * (n + 1) + j ∧ aN a n z Z r + 1 = z + j)) := by
  have h6 : n ≤ 6 := H.2.2.2.2.2.2.2.2.1
  rcases h with h | ⟨e, j, he, hj, rfl⟩
  · by_cases c : r < 21
    · left
      exact ⟨r, Or.inl h, aN_o c, Or.inl ⟨rfl, by omega, by omega⟩⟩
    · right
      obtain ⟨i, rfl⟩ : ∃ i, r = 21 + i := ⟨r - 21, by omega⟩
      rw [aN_t (by omega)]
      exact ⟨by omega, by omega, Or.inl ⟨by omega, by omega, by omega⟩⟩
  · by_cases c : e = n
    · subst c
      rw [rcN_n] at hj
      rw [aN_n (by omega)]
      rcases fe_cases (a := a) (z := z) hj with ⟨h1, h2, h3⟩ | ⟨h1, h3⟩ | ⟨h1, h2, h3⟩ | ⟨h1, h3⟩
      · left
        exact ⟨20 + j, Or.inl (by omega), h3, Or.inr ⟨j, h1, h2, rfl, rfl⟩⟩
      · right
        refine ⟨by omega, by omega, Or.inr (Or.inl ⟨by unfold eR; omega, h3⟩)⟩
      · right
        refine ⟨by omega, by omega, Or.inr (Or.inr (Or.inl ⟨j, h1, h2, rfl, h3⟩))⟩
      · right
        refine ⟨by omega, by omega, Or.inr (Or.inr (Or.inr ⟨j, h1, hj, rfl, h3⟩))⟩
    · have he' : e < n := by omega
      rw [rcN_o he'] at hj
      have h12 := H.2.2.2.2.2.2.2.1 e he'
      left
      refine ⟨eR e j, Or.inr ⟨e, j, he', hj, rfl⟩, aN_e he' (by omega), Or.inl ⟨rfl, ?_, ?_⟩⟩
      · unfold eR; omega
      · unfold eR; omega
theorem sh_new (H : Sh s a n rc) (hn : n < 6) (hz : z = xZ s) (o : Old z s s3) (T : TSh s3 z (a 21) (a 22) (a 23) (a 24) (a 25) rn) (hZ : Z = z + 12 + rn) (N : Nw s3 s6 (a 0) (a 1) n z Z) (W : WoSh s6 Z (Z + 1) (Z + 2) (Z + 3) (Z + 4)) (hz6 : xZ s6 = Z + 5) : Sh s6 (aN a n z Z) (n + 1) (rcN rc n rn) := by
  have E := T.1
  have hrn : rn ≤ 12 := E.2.2.2
  have lr : ∀ r, r < 26 → a r < z := fun r h => by rw [hz]; exact H.lr h
  have le : ∀ e j, e < n → j < 13 + rc e → a (eR e j) < z := fun e j h1 h2 => by rw [hz]; exact H.le h1 h2
  have hlt := T.2.2.2.2.2.2.1
  have fl : ∀ j, j < 13 + rn → fe z (a 21) (a 22) (a 23) (a 24) (a 25) j < Z := fun j hj => by
    rw [hZ]; exact fe_lt hlt hj
  have t0 : xT s3 (a 0) = 12 := by rw [(o _ (lr 0 (by decide))).1]; exact H.t 0
  have t1 : xT s3 (a 1) = 41 := by rw [(o _ (lr 1 (by decide))).1]; exact H.t 1
  have tg12 : ∀ j, tgE j ≠ 12 ∧ tgE j ≠ 41 := by
    intro j
    unfold tgE
    repeat' split
    all_goals decide
  have fn : ∀ j, j < 13 + rn → fe z (a 21) (a 22) (a 23) (a 24) (a 25) j ≠ a 0 ∧ fe z (a 21) (a 22) (a 23) (a 24) (a 25) j ≠ a 1 := by
    intro j hj
    have ht := (E.1 j hj).1
    exact ⟨fun q => by rw [q, t0] at ht; exact (tg12 j).1 ht.symm, fun q => by rw [q, t1] at ht; exact (tg12 j).2 ht.symm⟩
  have n01 : a 0 ≠ a 1 := H.ne
  have rN : ∀ c, c < Z → c ≠ a 0 → ∀ k, xR s6 c k = xR s3 c k := by
    intro c hc h0 k
    rw [(N c hc).2.2.2.1 k, if_neg (fun q => h0 q.1)]
  have oN : ∀ c, c < Z → c ≠ a 1 → ∀ k, xO s6 c k = xO s3 c k := by
    intro c hc h0 k
    rw [(N c hc).2.2.2.2.2.2 k, if_neg (fun q => h0 q.1)]
  obtain ⟨w1, w2, w3, w4, w5, w6, w7, w8, w9, w10, w11, w12, -, -⟩ := W
  obtain ⟨h1, h2, h3, h4, h5, h6, h7, h8, h9, h10, h11⟩ := id H
  refine ⟨fun r hr => ?_, fun r k q hq => ?_, fun e j he hj => ?_, fun e j k q he hq => ?_, fun e k he hk => ?_, fun e he => ?_, fun e he => ?_, fun e he => ?_, by omega, fun r hr => ?_, fun i j hi hj hij => ?_⟩
  · by_cases c : r < 21
    · rw [aN_o c, (N _ (by have := lr r hr; omega)).1, (N _ (by have := lr r hr; omega)).2.1, (o _ (lr r hr)).1, (o _ (lr r hr)).2.1]
      exact h1 r hr
    · have : r = 21 + 0 ∨ r = 21 + 1 ∨ r = 21 + 2 ∨ r = 21 + 3 ∨ r = 21 + 4 := by omega
      rcases this with q | q | q | q | q <;> rw [q, aN_t (by decide)]
      · exact ⟨w1, fun q => absurd q (by decide)⟩
      · exact ⟨w5, fun q => absurd q (by decide)⟩
      · exact ⟨w7, fun _ => w8⟩
      · exact ⟨w9, fun _ => w10⟩
      · exact ⟨w11, fun _ => w12⟩
  · rcases rf_cases hq with ⟨q1, q2, q3⟩ | ⟨q1, q2, q3⟩ | ⟨q1, q2, q3⟩ | ⟨q1, q2, q3⟩ | ⟨q1, q2, q3⟩ | ⟨q1, q2, q3⟩
    · rw [q1, q2, q3, aN_o (by decide), (N _ (by have := lr 0 (by decide); omega)).2.2.2.1, if_pos ⟨rfl, rfl⟩]
      exact congrArg some (aN_t (i := 0) (by decide)).symm
    · rw [q1, q2, q3, show (21 : Nat) = 21 + 0 from rfl, aN_t (by decide), show (22 : Nat) = 21 + 1 from rfl, aN_t (by decide)]
      exact w2
    · rw [q1, q2, q3, show (21 : Nat) = 21 + 0 from rfl, aN_t (by decide), show (24 : Nat) = 21 + 3 from rfl, aN_t (by decide)]
      exact w3
    · rw [q1, q2, q3, show (21 : Nat) = 21 + 0 from rfl, aN_t (by decide), show (25 : Nat) = 21 + 4 from rfl, aN_t (by decide)]
      exact w4
    · rw [q1, q2, q3, show (22 : Nat) = 21 + 1 from rfl, aN_t (by decide), show (23 : Nat) = 21 + 2 from rfl, aN_t (by decide)]
      exact w6
    · have hl := lr r (by omega)
      rw [aN_o q1, aN_o q2, (N _ (by omega)).2.2.2.1, if_neg (fun x => q3 ⟨(by
        apply Classical.byContradiction
        intro y
        exact H.ne (i := r) (j := 0) (by omega) (by decide) y x.1), x.2⟩), (o _ hl).2.2.2.1]
      exact h2 r k q hq
  · by_cases c : e = n
    · subst c
      rw [rcN_n] at hj
      rw [aN_n (by omega), (N _ (fl j hj)).1, (N _ (fl j hj)).2.1]
      exact E.1 j hj
    · have he' : e < n := by omega
      rw [rcN_o he'] at hj
      have := h8 e he'
      have hl := le e j he' hj
      rw [aN_e he' (by omega), (N _ (by omega)).1, (N _ (by omega)).2.1, (o _ hl).1, (o _ hl).2.1]
      exact h3 e j he' hj
  · have j13 := rfE_lt hq
    have q13 := rfE_q hq
    by_cases c : e = n
    · subst c
      rw [aN_n (by omega), aN_n (by omega), rN _ (fl j (by omega)) (fn j (by omega)).1]
      exact E.2.1 j k q hq
    · have he' : e < n := by omega
      have hl := le e j he' (by omega)
      rw [aN_e he' (by omega), aN_e he' (by omega), rN _ (by omega) (H.neE he' (by omega) (by decide)), (o _ hl).2.2.2.1]
      exact h4 e j k q he' hq
  · by_cases c : e = n
    · subst c
      rw [rcN_n] at hk
      rw [aN_n (by omega), aN_n (by omega), oN _ (fl 12 (by omega)) (fn 12 (by omega)).2]
      exact E.2.2.1 k hk
    · have he' : e < n := by omega
      rw [rcN_o he'] at hk
      have := h8 e he'
      have hl := le e 12 he' (by omega)
      rw [aN_e he' (by omega), aN_e he' (by omega), oN _ (by omega) (H.neE he' (by omega) (by decide)), (o _ hl).2.2.2.2.2.2]
      exact h5 e k he' hk
  · have hl := lr 1 (by decide)
    rw [aN_o (by decide), (N _ (by omega)).2.2.2.2.2.2]
    by_cases c : e = n
    · rw [if_pos ⟨rfl, c⟩, c, aN_n (by decide)]
      rfl
    · have he' : e < n := by omega
      rw [if_neg (fun q => c q.2), (o _ hl).2.2.2.2.2.2, aN_e he' (by decide)]
      exact h6 e he'
  · have hl := lr 1 (by decide)
    rw [aN_o (by decide), (N _ (by omega)).2.2.2.2.2.2, if_neg (by omega), (o _ hl).2.2.2.2.2.2]
    exact h7 e (by omega)
  · by_cases c : e = n
    · rw [c, rcN_n]; exact hrn
    · rw [rcN_o (by omega)]; exact h8 e (by omega)
  · rw [hz6]
    rcases aN_key H hz hZ hrn hr with ⟨ρ, g1, g2, -⟩ | ⟨g1, g2, -⟩
    · rw [g2]
      have := h10 ρ g1
      omega
    · exact g2
  · rcases aN_key H hz hZ hrn hi with ⟨ρ, g1, g2, g3⟩ | ⟨g1, g2, g3⟩
    · rcases aN_key H hz hZ hrn hj with ⟨ρ', g1', g2', g3'⟩ | ⟨g1', g2', g3'⟩
      · have eq : ρ = ρ' := h11 ρ ρ' g1 g1' (by rw [← g2, ← g2', hij])
        rcases g3 with ⟨x1, x2, x3⟩ | ⟨y, x1, x2, x3, x4⟩ <;> rcases g3' with ⟨x1', x2', x3'⟩ | ⟨y', x1', x2', x3', x4'⟩ <;> omega
      · exfalso
        have := h10 ρ g1
        omega
    · rcases aN_key H hz hZ hrn hj with ⟨ρ', g1', g2', g3'⟩ | ⟨g1', g2', g3'⟩
      · exfalso
        have := h10 ρ' g1'
        omega
      · rcases g3 with ⟨x1, x2, x3⟩ | ⟨x1, x3⟩ | ⟨y, x1, x2, x3, x4⟩ | ⟨y, x1, x2, x3, x4⟩ <;> rcases g3' with ⟨x1', x2', x3'⟩ | ⟨x1', x3'⟩ | ⟨y', x1', x2', x3', x4'⟩ | ⟨y', x1', x2', x3', x4'⟩ <;> omega
end SHNEW
