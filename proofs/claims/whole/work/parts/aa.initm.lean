/-! THE REFERENCE's CONSTRUCTOR -/
def goI (x0 : Nat) : List (Nat × Option hE) → hH → Option hH
  | [], h => some h
  | (k, some e) :: L, h => (some (hAdd h e)).bind fun h1 => (hPut h1 x0 12 k (.ref h.1)).bind fun h2 => goI x0 L h2
  | (k, none) :: L, h => (hPut h x0 12 k (.int (-1))).bind fun h2 => goI x0 L h2
def cellM (k : Nat) : hE := if mArr k = 4 then .inr (.long, mLen k, .inr (.inl (fun _ => 0))) else .inr (mTy k, mLen k, .inl (fun _ => 0))
def keyM : List Nat := [1, 4, 5, 6, 7, 8, 9, 10, 11, 12, 13, 14, 15, 16, 17, 18, 19, 20, 25, 26, 27, 28, 29, 30, 31, 32, 35, 36, 38]
def itM : List (Nat × Option hE) := keyM.map fun k => (k, if k = 29 then none else some (cellM k))
theorem goM (F : Nat) (h : hH) (x0 : Nat) : M_Mo_init F h x0 = goI x0 itM h := rfl
def fl (f : Nat → Value) : List Value := (List.range 39).map f
theorem fl_set (f : Nat → Value) {k : Nat} (v : Value) (hk : k < 39) : (fl f).set k v = fl (fun j => if j = k then v else f j) := by
  apply List.ext_getElem?
  intro i
  unfold fl
  rw [List.getElem?_set, List.getElem?_map, List.getElem?_map]
  by_cases hi : i < 39
  · rw [List.getElem?_range hi]
    by_cases c : k = i
    · subst c; simp [hk]
    · have : ¬ i = k := fun q => c q.symm
      simp [c, this]
  · have h0 : (List.range 39)[i]? = none := by rw [List.getElem?_eq_none_iff]; simp; omega
    have : ¬ k = i := by omega
    simp [h0, this]
theorem put_ob {h : hH} {x0 k : Nat} {f : Nat → Value} (v : Value) (hx : h.2 x0 = some (.inl (12, fl f))) (hk : k < 39) : hPut h x0 12 k v = some (hSet h x0 (.inl (12, fl (fun j => if j = k then v else f j)))) := by
  have hl : (fl f).length = 39 := by simp [fl]
  unfold hPut hObj
  rw [hx]
  simp only [if_true, Option.bind_some, hl, hk, fl_set f v hk]
theorem goI_ok {x0 : Nat} : ∀ (L : List (Nat × Option hE)) (h : hH) (f : Nat → Value), h.2 x0 = some (.inl (12, fl f)) → x0 < h.1 → (∀ p, p ∈ L → p.1 < 39) → (L.map Prod.fst).Nodup →
    ∃ h2 f2, goI x0 L h = some h2 ∧ h2.2 x0 = some (.inl (12, fl f2)) ∧ h.1 ≤ h2.1 ∧ (∀ j, j < h.1 → j ≠ x0 → h2.2 j = h.2 j) ∧ (∀ k, k ∉ L.map Prod.fst → f2 k = f k) ∧ (∀ k e, (k, some e) ∈ L → ∃ c, h.1 ≤ c ∧ c < h2.1 ∧ f2 k = .ref c ∧ h2.2 c = some e) ∧ (∀ k, (k, none) ∈ L → f2 k = .int (-1)) ∧ (∀ k k2 c, k ∈ L.map Prod.fst → k2 ∈ L.map Prod.fst → f2 k = .ref c → f2 k2 = .ref c → k = k2) ∧ (∀ j, h2.1 ≤ j → h.2 j = none → h2.2 j = none) := by
  intro L
  induction L with
  | nil => intro h f hx hl _ _; exact ⟨h, f, rfl, hx, Nat.le_refl _, fun _ _ _ => rfl, fun _ _ => rfl, fun k e q => by simp at q, fun k q => by simp at q, fun k k2 c q => by simp at q, fun j _ q => q⟩
  | cons p L ih =>
    intro h f hx hl hb hnd
    obtain ⟨k, o⟩ := p
    have hk : k < 39 := hb (k, o) (List.mem_cons_self ..)
    simp only [List.map_cons, List.nodup_cons] at hnd
    obtain ⟨hk1, hnd⟩ := hnd
    have hb2 : ∀ p, p ∈ L → p.1 < 39 := fun p hp => hb p (List.mem_cons_of_mem _ hp)
    have n0 : x0 ≠ h.1 := by omega
    cases o with
    | some e =>
      have hx1 : (hAdd h e).2 x0 = some (.inl (12, fl f)) := by simp [hAdd, n0]; exact hx
      have ep := put_ob (.ref h.1) hx1 hk
      obtain ⟨h1, hh1⟩ : ∃ q, q = hSet (hAdd h e) x0 (.inl (12, fl (fun j => if j = k then .ref h.1 else f j))) := ⟨_, rfl⟩
      rw [← hh1] at ep
      have z1 : h1.1 = h.1 + 1 := by rw [hh1]; rfl
      have x1 : h1.2 x0 = some (.inl (12, fl (fun j => if j = k then .ref h.1 else f j))) := by rw [hh1]; simp [hSet]
      have c1 : h1.2 h.1 = some e := by
        rw [hh1]
        have : ¬ h.1 = x0 := fun q => n0 q.symm
        simp [hSet, hAdd, this]
      have c2 : ∀ j, j ≠ h.1 → j ≠ x0 → h1.2 j = h.2 j := by
        intro j q1 q2
        rw [hh1]; simp [hSet, hAdd, q1, q2]
      obtain ⟨h2, f2, g1, g2, g3, g4, g5, g6, g7, g8, g9⟩ := ih h1 _ x1 (by omega) hb2 hnd
      have fk : f2 k = .ref h.1 := by rw [g5 k hk1]; simp
      refine ⟨h2, f2, ?_, g2, by omega, fun j hj hj2 => ?_, fun j hj => ?_, fun j e2 hj => ?_, fun j hj => ?_, fun j j2 c q1 q2 q3 q4 => ?_, fun j hj q => ?_⟩
      · simp only [goI, Option.bind_some, ep, g1]
      · rw [g4 j (by omega) hj2, c2 j (by omega) hj2]
      · simp only [List.map_cons, List.mem_cons, not_or] at hj
        rw [g5 j hj.2]
        simp [hj.1]
      · simp only [List.mem_cons, Prod.mk.injEq] at hj
        rcases hj with ⟨q1, q2⟩ | hj
        · cases q2
          refine ⟨h.1, Nat.le_refl _, by omega, by rw [q1]; exact fk, ?_⟩
          rw [g4 h.1 (by omega) (fun q => n0 q.symm)]
          exact c1
        · obtain ⟨c, u1, u2⟩ := g6 j e2 hj
          exact ⟨c, by omega, u2⟩
      · simp only [List.mem_cons, Prod.mk.injEq] at hj
        rcases hj with ⟨-, q2⟩ | hj
        · cases q2
        · exact g7 j hj
      · simp only [List.map_cons, List.mem_cons] at q1 q2
        have old : ∀ j c, j ∈ L.map Prod.fst → f2 j = .ref c → h.1 < c := by
          intro j c hj hc
          obtain ⟨p, hp, ej⟩ := List.mem_map.mp hj
          obtain ⟨pk, po⟩ := p
          simp only at ej
          subst ej
          cases po with
          | some e3 =>
            obtain ⟨c3, u1, u2, u3, u4⟩ := g6 _ _ hp
            rw [u3] at hc
            cases hc
            omega
          | none =>
            rw [g7 _ hp] at hc
            cases hc
        rcases q1 with q1 | q1 <;> rcases q2 with q2 | q2
        · rw [q1, q2]
        · exfalso
          rw [q1, fk] at q3
          have := old j2 c q2 q4
          cases q3
          omega
        · exfalso
          rw [q2, fk] at q4
          have := old j c q1 q3
          cases q4
          omega
        · exact g8 j j2 c q1 q2 q3 q4
      · have : h1.2 j = none := by
          rw [c2 j (by omega) (by omega)]; exact q
        exact g9 j hj this
    | none =>
      have ep := put_ob (.int (-1)) hx hk
      obtain ⟨h1, hh1⟩ : ∃ q, q = hSet h x0 (.inl (12, fl (fun j => if j = k then .int (-1) else f j))) := ⟨_, rfl⟩
      rw [← hh1] at ep
      have z1 : h1.1 = h.1 := by rw [hh1]; rfl
      have x1 : h1.2 x0 = some (.inl (12, fl (fun j => if j = k then .int (-1) else f j))) := by rw [hh1]; simp [hSet]
      have c2 : ∀ j, j ≠ x0 → h1.2 j = h.2 j := by
        intro j q2
        rw [hh1]; simp [hSet, q2]
      obtain ⟨h2, f2, g1, g2, g3, g4, g5, g6, g7, g8, g9⟩ := ih h1 _ x1 (by omega) hb2 hnd
      have fk : f2 k = .int (-1) := by rw [g5 k hk1]; simp
      refine ⟨h2, f2, ?_, g2, by omega, fun j hj hj2 => ?_, fun j hj => ?_, fun j e2 hj => ?_, fun j hj => ?_, fun j j2 c q1 q2 q3 q4 => ?_, fun j hj q => ?_⟩
      · simp only [goI, ep, Option.bind_some, g1]
      · rw [g4 j (by omega) hj2, c2 j hj2]
      · simp only [List.map_cons, List.mem_cons, not_or] at hj
        rw [g5 j hj.2]
        simp [hj.1]
      · simp only [List.mem_cons, Prod.mk.injEq] at hj
        rcases hj with ⟨-, q2⟩ | hj
        · cases q2
        · obtain ⟨c, u1, u2⟩ := g6 j e2 hj
          exact ⟨c, by omega, u2⟩
      · simp only [List.mem_cons, Prod.mk.injEq] at hj
        rcases hj with ⟨q1, -⟩ | hj
        · rw [q1]; exact fk
        · exact g7 j hj
      · simp only [List.map_cons, List.mem_cons] at q1 q2
        rcases q1 with q1 | q1
        · rw [q1, fk] at q3; cases q3
        · rcases q2 with q2 | q2
          · rw [q2, fk] at q4; cases q4
          · exact g8 j j2 c q1 q2 q3 q4
      · exact g9 j hj (by rw [c2 j (by omega)]; exact q)
def mZ : MS := (fun k => if k = 29 then -1 else 0, fun _ _ => 0, fun _ _ => 0)
def fM0 (k : Nat) : Value := if mInt k then .int 0 else .null
def adV (v : Value) : Nat := match v with
  | .ref c => c
  | _ => 0
theorem mArr_lt {k : Nat} (h : mArr k ≠ 0) : k < 39 := by
  apply Classical.byContradiction
  intro q
  apply h
  unfold mArr
  split <;> first | rfl | omega
theorem keyM_arr : ∀ k, k < 39 → (mArr k ≠ 0 → k ∈ keyM ∧ k ≠ 29 ∧ mInt k = false) ∧ (mArr k = 0 → mInt k = true ∧ (k ∈ keyM ↔ k = 29)) := by decide
/-- the constructor makes the record of zeros -/
theorem init_rep {F : Nat} {h : hH} {x0 : Nat} (hx : h.2 x0 = some (.inl (12, fl fM0))) (hl : x0 < h.1) : ∃ h2 ad, M_Mo_init F h x0 = some h2 ∧ RepM ad x0 h2 mZ ∧ h.1 ≤ h2.1 ∧ ∀ j, j < h.1 → j ≠ x0 → h2.2 j = h.2 j := by
  have ek : itM.map Prod.fst = keyM := by unfold itM; rw [List.map_map]; exact List.map_id keyM
  have hb : ∀ p, p ∈ itM → p.1 < 39 := by
    intro p hp
    have h1 : p.1 ∈ itM.map Prod.fst := List.mem_map_of_mem hp
    rw [ek] at h1
    have h2 : ∀ k ∈ keyM, k < 39 := by decide
    exact h2 _ h1
  obtain ⟨h2, f2, g1, g2, g3, g4, g5, g6, g7, g8, g9⟩ := goI_ok itM h fM0 hx hl hb (by rw [ek]; decide)
  rw [ek] at g5 g8
  have gA : ∀ k, mArr k ≠ 0 → f2 k = .ref (adV (f2 k)) ∧ h2.2 (adV (f2 k)) = some (cellM k) := by
    intro k hk
    obtain ⟨k1, k2, -⟩ := (keyM_arr k (mArr_lt hk)).1 hk
    obtain ⟨c, -, -, u3, u4⟩ := g6 k (cellM k) (by
      unfold itM
      rw [List.mem_map]
      exact ⟨k, k1, by simp [k2]⟩)
    rw [u3]
    exact ⟨rfl, u4⟩
  refine ⟨h2, fun k => adV (f2 k), by rw [goM]; exact g1, ⟨?_, ?_, ?_, ?_⟩, g3, g4⟩
  · rw [g2]
    congr 3
    unfold fl mFs
    apply List.map_congr_left
    intro k hk
    have hk : k < 39 := by simpa using hk
    by_cases c : mArr k = 0
    · obtain ⟨c1, c2⟩ := (keyM_arr k hk).2 c
      rw [c1, if_pos rfl]
      by_cases c3 : k = 29
      · subst c3
        exact g7 29 (by
          unfold itM
          rw [List.mem_map]
          exact ⟨29, by decide, by simp⟩)
      · rw [g5 k (fun q => c3 (c2.mp q))]
        simp [fM0, c1, mZ, c3]
    · obtain ⟨-, -, c1⟩ := (keyM_arr k hk).1 c
      rw [c1]
      exact (gA k c).1
  · intro k hk
    have h0 : mArr k ≠ 0 := by omega
    have h4 : ¬ mArr k = 4 := by omega
    rw [(gA k h0).2]
    simp only [cellM, h4, if_false]
    rfl
  · intro k hk
    have h0 : mArr k ≠ 0 := by omega
    rw [(gA k h0).2]
    simp only [cellM, hk, if_true]
    rfl
  · intro j k hj hk e
    have e : adV (f2 j) = adV (f2 k) := e
    obtain ⟨j1, -⟩ := (keyM_arr j (mArr_lt hj)).1 hj
    obtain ⟨k1, -⟩ := (keyM_arr k (mArr_lt hk)).1 hk
    exact g8 j k _ j1 k1 (gA j hj).1 (by rw [e]; exact (gA k hk).1)
