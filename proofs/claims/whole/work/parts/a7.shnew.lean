/-! ONE MORE EDITION, A NEW DRAFT -/
def aN (a : Nat → Nat) (n yy Z : Nat) (r : Nat) : Nat :=
  if 21 ≤ r ∧ r ≤ 25 then Z + (r - 20) else if r = 26 then Z else if 27 ≤ r ∧ r ≤ 33 then Z + (r - 21) else if 100 * (n + 1) ≤ r ∧ r < 100 * (n + 2) then fe (a 26) yy (r - 100 * (n + 1)) else a r
/-- s6 is s3 but for the object's number of editions and draft, the book, the day -/
def Nw (s3 s6 : XS) (a0 a1 n z dn Z : Nat) : Prop := ∀ c, c < Z → xT s6 c = xT s3 c ∧ xL s6 c = xL s3 c ∧ (∀ k, xI s6 c k = if c = a0 ∧ k = 1 then nI (n + 1) else if c = z ∧ k = 5 then nI dn else xI s3 c k) ∧ (∀ k, xR s6 c k = if c = a0 ∧ k = 2 then some Z else xR s3 c k) ∧ xA s6 c = xA s3 c ∧ xJ s6 c = xJ s3 c ∧ ∀ k, xO s6 c k = if c = a1 ∧ k = n then some z else xO s3 c k
/-- the role of the draft's cell j -/
def dr (j : Nat) : Nat := if j = 0 then 26 else if j ≤ 5 then 20 + j else 21 + j
theorem tg_dr : ∀ j, j < 13 → tg (dr j) = tgE j ∧ ln (dr j) = lnE j ∧ dr j < 38 ∧ 21 ≤ dr j ∧ dr j ≤ 33 := by decide
theorem rf_k {r k q : Nat} (h : rf r k = some q) : k < 10 := by
  unfold rf at h
  revert h
  split <;> intro h <;> first | (cases h; done) | omega
theorem rf_dr : ∀ j, j < 13 → ∀ k, k < 10 → rf (dr j) k = (rfE j k).map dr := by decide
theorem rf_o : ∀ r, r < 38 → ∀ k, k < 10 → (r < 21 ∨ 34 ≤ r) → (r = 0 ∧ k = 2) ∨ rf r k = none ∨ ((rf r k).getD 0 < 21 ∨ 34 ≤ (rf r k).getD 0) := by decide
theorem dr_of {r : Nat} (h1 : 21 ≤ r) (h2 : r ≤ 33) : ∃ j, j < 13 ∧ r = dr j := by
  have : ∀ r, r < 34 → 21 ≤ r → ∃ j, j < 13 ∧ r = dr j := by decide
  exact this r (by omega) h1
section SHNEW
variable {s3 s6 : XS} {a : Nat → Nat} {n : Nat} {rc : Nat → Nat} {yy Z rn dn : Nat}
theorem fe_lo {z j : Nat} (hj : j < 13) : fe z yy j = z + j := by
  have hj' : j = 0 ∨ j = 1 ∨ j = 2 ∨ j = 3 ∨ j = 4 ∨ j = 5 ∨ j = 6 ∨ j = 7 ∨ j = 8 ∨ j = 9 ∨ j = 10 ∨ j = 11 ∨ j = 12 := by omega
  rcases hj' with e | e | e | e | e | e | e | e | e | e | e | e | e <;> subst e <;> rfl
theorem Lay.dw (L : Lay a) {j : Nat} (hj : j < 13) : a (dr j) = a 26 + j := by
  by_cases c : j = 0
  · subst c; rfl
  · by_cases c2 : j ≤ 5
    · obtain ⟨i, rfl⟩ : ∃ i, j = 1 + i := ⟨j - 1, by omega⟩
      have e : dr (1 + i) = 21 + i := by unfold dr; rw [if_neg c, if_pos c2]; omega
      rw [e]; exact L.1 i (by omega)
    · obtain ⟨i, rfl⟩ : ∃ i, j = 6 + i := ⟨j - 6, by omega⟩
      have e : dr (6 + i) = 27 + i := by unfold dr; rw [if_neg c, if_neg c2]; omega
      rw [e]; exact L.2.1 i (by omega)
theorem aN_o {r : Nat} (h : r < 21 ∨ 34 ≤ r) (h2 : r < 100) : aN a n yy Z r = a r := by
  unfold aN
  rw [if_neg (by omega), if_neg (by omega), if_neg (by omega), if_neg (by omega)]
theorem aN_e {e j : Nat} (he : e < n) (hj : j < 100) : aN a n yy Z (eR e j) = a (eR e j) := by
  unfold aN eR
  rw [if_neg (by omega), if_neg (by omega), if_neg (by omega), if_neg (by omega)]
theorem aN_n {j : Nat} (hj : j < 100) : aN a n yy Z (eR n j) = fe (a 26) yy j := by
  unfold aN eR
  rw [if_neg (by omega), if_neg (by omega), if_neg (by omega), if_pos (by omega)]
  congr 1
  omega
theorem aN_d {j : Nat} (hj : j < 13) : aN a n yy Z (dr j) = Z + j := by
  unfold aN dr
  by_cases c : j = 0
  · subst c; simp
  · by_cases c2 : j ≤ 5
    · rw [if_neg c, if_pos c2, if_pos (by omega)]; omega
    · rw [if_neg c, if_neg c2, if_neg (by omega), if_neg (by omega), if_pos (by omega)]; omega
def rcN (rc : Nat → Nat) (n rn : Nat) (e : Nat) : Nat := if e = n then rn else rc e
theorem rcN_n : rcN rc n rn n = rn := by simp [rcN]
theorem rcN_o {e : Nat} (h : e < n) : rcN rc n rn e = rc e := by
  have : ¬ e = n := by omega
  simp [rcN, this]
theorem aN_key (H : Sh s3 a n rc) (L : Lay a) (hZ : Z = yy + rn) (hrn : rn ≤ 12) {r : Nat} (h : Dm (n + 1) (rcN rc n rn) r) :
    (∃ ρ, Dm n rc ρ ∧ aN a n yy Z r = a ρ ∧ (ρ = r ∧ (r < 21 ∨ 34 ≤ r) ∧ r < 100 * (n + 1) ∨ ∃ j, j < 13 ∧ r = 100 * (n + 1) + j ∧ ρ = dr j)) ∨
    (yy ≤ aN a n yy Z r ∧ aN a n yy Z r < Z + 13 ∧ ((∃ j, j < 13 ∧ r = dr j ∧ aN a n yy Z r = Z + j) ∨ ∃ j, 13 ≤ j ∧ j < 13 + rn ∧ r = 100 * (n + 1) + j ∧ aN a n yy Z r + 13 = yy + j)) := by
  have h6 : n ≤ 6 := H.2.2.2.2.2.2.2.2.1
  rcases h with h | ⟨e, j, he, hj, rfl⟩
  · by_cases c : r < 21 ∨ 34 ≤ r
    · left
      exact ⟨r, Or.inl h, aN_o c (by omega), Or.inl ⟨rfl, c, by omega⟩⟩
    · right
      obtain ⟨j, hj, rfl⟩ := dr_of (r := r) (by omega) (by omega)
      rw [aN_d hj]
      exact ⟨by omega, by omega, Or.inl ⟨j, hj, rfl, rfl⟩⟩
  · by_cases c : e = n
    · subst c
      rw [rcN_n] at hj
      rw [aN_n (by omega)]
      by_cases c2 : j < 13
      · left
        exact ⟨dr j, Or.inl (tg_dr j c2).2.2.1, by rw [fe_lo c2, L.dw c2], Or.inr ⟨j, c2, rfl, rfl⟩⟩
      · right
        obtain ⟨k, rfl⟩ : ∃ k, j = 13 + k := ⟨j - 13, by omega⟩
        rw [fe_r]
        exact ⟨by omega, by omega, Or.inr ⟨13 + k, by omega, hj, rfl, by omega⟩⟩
    · have he' : e < n := by omega
      rw [rcN_o he'] at hj
      have h12 := H.2.2.2.2.2.2.2.1 e he'
      left
      refine ⟨eR e j, Or.inr ⟨e, j, he', hj, rfl⟩, aN_e he' (by omega), Or.inl ⟨rfl, ?_, ?_⟩⟩
      · unfold eR; omega
      · unfold eR; omega
/-- a new draft's shape, at Z -/
def DrN (s : XS) (Z : Nat) : Prop := (∀ j, j < 13 → xT s (Z + j) = tgE j ∧ (20 ≤ tgE j → xL s (Z + j) = lnE j)) ∧ ∀ j k q, rfE j k = some q → xR s (Z + j) k = some (Z + q)
theorem sh_new (H : Sh s3 a n rc) (L : Lay a) (hn : n < 6) (hy : ∀ r, Dm n rc r → a r < yy) (T : TSh s3 (a 26) (a 34) yy rn) (hZ : Z = yy + rn) (N : Nw s3 s6 (a 0) (a 1) n (a 26) dn Z) (D : DrN s6 Z) (hz6 : xZ s6 = Z + 13) : Sh s6 (aN a n yy Z) (n + 1) (rcN rc n rn) := by
  have E := T.1
  have hrn : rn ≤ 12 := E.2.2.2
  have lr : ∀ r, r < 38 → a r < Z := fun r h => by have := hy r (Or.inl h); omega
  have le : ∀ e j, e < n → j < 13 + rc e → a (eR e j) < Z := fun e j h1 h2 => by have := hy _ (Or.inr ⟨e, j, h1, h2, rfl⟩); omega
  have hlt := T.2.2.2.2.2.2
  have fl : ∀ j, j < 13 + rn → fe (a 26) yy j < Z := fun j hj => by
    rw [hZ]; exact fe_lt hlt.1 hj
  have fn : ∀ j, j < 13 → fe (a 26) yy j ≠ a 0 ∧ fe (a 26) yy j ≠ a 1 := by
    intro j hj
    rw [fe_lo hj, ← L.dw hj]
    have := (tg_dr j hj).2.2
    exact ⟨H.ne (by omega) (by decide) (by omega), H.ne (by omega) (by decide) (by omega)⟩
  have n01 : a 0 ≠ a 1 := H.ne
  have rN : ∀ c, c < Z → c ≠ a 0 → ∀ k, xR s6 c k = xR s3 c k := by
    intro c hc h0 k
    rw [(N c hc).2.2.2.1 k, if_neg (fun q => h0 q.1)]
  have oN : ∀ c, c < Z → c ≠ a 1 → ∀ k, xO s6 c k = xO s3 c k := by
    intro c hc h0 k
    rw [(N c hc).2.2.2.2.2.2 k, if_neg (fun q => h0 q.1)]
  obtain ⟨h1, h2, h3, h4, h5, h6, h7, h8, h9, h10, h11⟩ := id H
  refine ⟨fun r hr => ?_, fun r k q hq => ?_, fun e j he hj => ?_, fun e j k q he hq => ?_, fun e k he hk => ?_, fun e he => ?_, fun e he => ?_, fun e he => ?_, by omega, fun r hr => ?_, fun i j hi hj hij => ?_⟩
  · by_cases c : r < 21 ∨ 34 ≤ r
    · rw [aN_o c (by omega), (N _ (lr r hr)).1, (N _ (lr r hr)).2.1]
      exact h1 r hr
    · obtain ⟨j, hj, rfl⟩ := dr_of (r := r) (by omega) (by omega)
      have := tg_dr j hj
      rw [aN_d hj, this.1, this.2.1]
      exact D.1 j hj
  · have hk := rf_k hq
    have hr := (rf_lt hq).1
    by_cases c : r < 21 ∨ 34 ≤ r
    · rcases rf_o r hr k hk c with ⟨q1, q2⟩ | q1 | q1
      · subst q1 q2
        obtain rfl : 26 = q := Option.some.inj hq
        rw [aN_o (by decide) (by decide), (N _ (lr 0 (by decide))).2.2.2.1, if_pos ⟨rfl, rfl⟩]
        exact congrArg some (aN_d (j := 0) (by decide)).symm
      · rw [q1] at hq; cases hq
      · rw [hq] at q1
        have q1 : q < 21 ∨ 34 ≤ q := q1
        have hq2 := (rf_lt hq).2
        by_cases c0 : r = 0 ∧ k = 2
        · obtain ⟨rfl, rfl⟩ := c0
          obtain rfl : 26 = q := Option.some.inj hq
          omega
        · rw [aN_o c (by omega), aN_o q1 (by omega), (N _ (lr r hr)).2.2.2.1, if_neg (fun x => c0 ⟨Classical.byContradiction (fun y => H.ne (i := r) (j := 0) hr (by decide) y x.1), x.2⟩)]
          exact h2 r k q hq
    · obtain ⟨j, hj, rfl⟩ := dr_of (r := r) (by omega) (by omega)
      rw [rf_dr j hj k hk] at hq
      cases hE : rfE j k with
      | none => rw [hE] at hq; cases hq
      | some x =>
        rw [hE] at hq
        obtain rfl : dr x = q := Option.some.inj hq
        rw [aN_d hj, aN_d (rfE_q hE)]
        exact D.2 j k x hE
  · by_cases c : e = n
    · subst c
      rw [rcN_n] at hj
      rw [aN_n (by omega), (N _ (fl j hj)).1, (N _ (fl j hj)).2.1]
      exact E.1 j hj
    · have he' : e < n := by omega
      rw [rcN_o he'] at hj
      have := h8 e he'
      have hl := le e j he' hj
      rw [aN_e he' (by omega), (N _ hl).1, (N _ hl).2.1]
      exact h3 e j he' hj
  · have j13 := rfE_lt hq
    have q13 := rfE_q hq
    by_cases c : e = n
    · subst c
      rw [aN_n (by omega), aN_n (by omega), rN _ (fl j (by omega)) (fn j (by omega)).1]
      exact E.2.1 j k q hq
    · have he' : e < n := by omega
      have hl := le e j he' (by omega)
      rw [aN_e he' (by omega), aN_e he' (by omega), rN _ (by omega) (H.neE he' (by omega) (by decide))]
      exact h4 e j k q he' hq
  · by_cases c : e = n
    · subst c
      rw [rcN_n] at hk
      rw [aN_n (by omega), aN_n (by omega), oN _ (fl 12 (by omega)) (fn 12 (by omega)).2]
      exact E.2.2.1 k hk
    · have he' : e < n := by omega
      rw [rcN_o he'] at hk
      have := h8 e he'
      have hl := le e 12 he' (by omega)
      rw [aN_e he' (by omega), aN_e he' (by omega), oN _ (by omega) (H.neE he' (by omega) (by decide))]
      exact h5 e k he' hk
  · have hl := lr 1 (by decide)
    rw [aN_o (by decide) (by decide), (N _ (by omega)).2.2.2.2.2.2]
    by_cases c : e = n
    · rw [if_pos ⟨rfl, c⟩, c, aN_n (by decide)]
      rfl
    · have he' : e < n := by omega
      rw [if_neg (fun q => c q.2), aN_e he' (by decide)]
      exact h6 e he'
  · have hl := lr 1 (by decide)
    rw [aN_o (by decide) (by decide), (N _ (by omega)).2.2.2.2.2.2, if_neg (by omega)]
    exact h7 e (by omega)
  · by_cases c : e = n
    · rw [c, rcN_n]; exact hrn
    · rw [rcN_o (by omega)]; exact h8 e (by omega)
  · rw [hz6]
    rcases aN_key H L hZ hrn hr with ⟨ρ, g1, g2, -⟩ | ⟨g1, g2, -⟩
    · rw [g2]
      have := hy ρ g1
      omega
    · exact g2
  · have dj : ∀ i, i < 13 → ∀ j, j < 13 → dr i = dr j → i = j := by decide
    rcases aN_key H L hZ hrn hi with ⟨ρ, g1, g2, g3⟩ | ⟨g1, g2, g3⟩
    · rcases aN_key H L hZ hrn hj with ⟨ρ', g1', g2', g3'⟩ | ⟨g1', g2', g3'⟩
      · have eq : ρ = ρ' := h11 ρ ρ' g1 g1' (by rw [← g2, ← g2', hij])
        rcases g3 with ⟨x1, x2, x3⟩ | ⟨y, x1, x2, x3⟩ <;> rcases g3' with ⟨x1', x2', x3'⟩ | ⟨y', x1', x2', x3'⟩
        · omega
        · have := (tg_dr y' x1').2.2; omega
        · have := (tg_dr y x1).2.2; omega
        · have := dj y x1 y' x1' (by omega); omega
      · exfalso
        have := hy ρ g1
        omega
    · rcases aN_key H L hZ hrn hj with ⟨ρ', g1', g2', g3'⟩ | ⟨g1', g2', g3'⟩
      · exfalso
        have := hy ρ' g1'
        omega
      · rcases g3 with ⟨y, x1, x2, x3⟩ | ⟨y, x1, x2, x3, x4⟩ <;> rcases g3' with ⟨y', x1', x2', x3'⟩ | ⟨y', x1', x2', x3', x4'⟩
        · have e : y = y' := by omega
          rw [x2, x2', e]
        · exfalso; omega
        · exfalso; omega
        · omega
end SHNEW
