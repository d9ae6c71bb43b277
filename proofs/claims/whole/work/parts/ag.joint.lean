/-! A JOINT HEAP: calls on a part of it -/
def Sub (g h : hH) : Prop := g.1 = h.1 ∧ ∀ q x, g.2 q = some x → h.2 q = some x
/-- the joint heap when its part g has become g2 -/
def Jn (h g g2 h2 : hH) : Prop := h2.1 = g2.1 ∧ (∀ q x, g2.2 q = some x → h2.2 q = some x) ∧ (∀ q x, h.2 q = some x → g.2 q = none → h2.2 q = some x ∧ g2.2 q = none) ∧ ∀ q x, h2.2 q = some x → g2.2 q = some x ∨ (h.2 q = some x ∧ g.2 q = none)
def hJ (h g g2 : hH) : hH := (g2.1, fun q => match g2.2 q with
  | some x => some x
  | none => match g.2 q with
    | some _ => none
    | none => h.2 q)
theorem hw.sub {D : va_G} {cl : List vw_C} {A : Nat → Prop} {U : State} {H : Heap} {g h : hH} (t : hw D cl A U H h) (hs : Sub g h) : hw D cl A U H g := ⟨t.1.trans hs.1.symm, fun a x hx => t.2 a x (hs.2 a x hx)⟩
theorem hJ_jn {D : va_G} {cl : List vw_C} {A : Nat → Prop} {s t : State} {H H1 : Heap} {g g2 h : hH} (a1 : hw D cl A s H h) (hs : Sub g h) (h2 : hw D cl (hF g) t H1 g2) : Jn h g g2 (hJ h g g2) := by
  have key : ∀ q x, h.2 q = some x → g.2 q = none → g2.2 q = none := by
    intro q x hx hg
    cases hq : g2.2 q with
    | none => rfl
    | some y =>
      exfalso
      have hl := (a1.2 q x hx).2.lt
      rcases (h2.2 q y hq).1 with h3 | h3
      · have := a1.1
        have := hs.1
        omega
      · exact h3 hg
  refine ⟨rfl, fun q x hx => by simp [hJ, hx], fun q x hx hg => ?_, fun q x hx => ?_⟩
  · have h3 := key q x hx hg
    exact ⟨by simp [hJ, h3, hg]; exact hx, h3⟩
  · simp only [hJ] at hx
    cases h3 : g2.2 q with
    | some y => rw [h3] at hx; simp only at hx; exact Or.inl hx
    | none =>
      rw [h3] at hx
      simp only at hx
      cases h4 : g.2 q with
      | some y => rw [h4] at hx; cases hx
      | none => rw [h4] at hx; exact Or.inr ⟨hx, rfl⟩
section JOINT
variable {G : hSt} {p : Program} {l : Launch} {e : Env} {R : Room} {s : State} {m : MethodId} {args : Array Value} {below : List Frame} {meth : Method} {c : Code} {cc : ByteArray} {nL : Nat} {Ts : List Cond} {own : String} {D : va_G} {cl : List vw_C} {K : (Nat → Nat) × (Nat → Nat)} {A : Nat → Prop} {h : hH} {lv : List (Nat × Value)} {k n pc : Nat} {Q : State → Prop}
/-- what a callee leaves, at the joint heap -/
theorem joint_hw {t : State} {H H1 : Heap} {g g2 : hH} (a1 : hw D cl A s H h) (hs : Sub g h) (hA : ∀ q, hF g q → A q) (h2 : hw D cl (hF g) s H1 g2) (hk : ∀ q : Nat, q < H.size → ¬ hF g q → H1[q]? = H[q]?) : hw D cl A s H1 (hJ h g g2) := by
  have J := hJ_jn a1 hs h2
  refine ⟨h2.1, fun q x hx => ?_⟩
  rcases J.2.2.2 q x hx with h3 | ⟨h3, h4⟩
  · exact ⟨hA q (h2.2 q x h3).1, (h2.2 q x h3).2⟩
  · have h9 := a1.2 q x h3
    have hl := h9.2.lt
    refine ⟨h9.1, h9.2.kept (hk q hl (fun z => ?_))⟩
    rcases z with z | z
    · have := a1.1
      have := hs.1
      omega
    · exact z h4
theorem J_callG {g g2 : hH} {mc ms : Nat} {o : Option Value} {a : Array Value} {st0 rest : List Value} (hs : Sub g h) (hr : ∀ (H : Heap) (locs : List Loc) (ls : Array Slot), hw D cl A s H g → va_S A s.heap H locs → lv_has ls nL lv → va_Run p l e R s m args below meth c H locs k n mc ms (F0 m pc ls st0) rest (hQ D cl g o g2 a) (hF g)) (hA : ∀ q, s.heap.size ≤ q → A q) (kk : ∀ h2, Jn h g g2 h2 → g.1 ≤ g2.1 → J p l e R s m args below meth c nL D cl A h2 lv (k + mc) (n + ms) Q (pc + 3) (o.toList ++ rest)) : J p l e R s m args below meth c nL D cl A h lv k n Q pc st0 := by
  intro H locs ls a1 b1 d1 T hT X
  have a1g := a1.sub hs
  obtain ⟨v, st₀, t, T', L, h0, X', hL, e1, e2, ⟨hv, hw2, hz, hk⟩, st⟩ := hr H locs ls a1g b1 d1 T hT X
  cases hv
  have hal : s.vm.Alike t.vm := by rw [← e2]; exact X'.warmed.alike
  have hfr := a1g.free hA b1.1
  rw [h0] at hz hk
  have hw2' : hw D cl (hF g) s T'.heap g2 := by rw [e1]; exact hw2.moved hal.symm
  have hk' : ∀ q : Nat, q < H.size → ¬ hF g q → T'.heap[q]? = H[q]? := fun q h1 h2 => by rw [e1]; exact hk q h1 h2
  have hw3 := joint_hw (t := t) a1 hs hfr hw2' hk'
  have hS2 : va_S A s.heap T'.heap (locs ++ L) := by
    refine ⟨Nat.le_trans b1.1 (by rw [e1]; exact hz), fun q h1 h2 => ?_, fun q hq => ?_⟩
    · rw [hk' q (Nat.lt_of_lt_of_le h1 b1.1) (fun z => h2 (hfr q z))]
      exact b1.2.1 q h1 h2
    · rcases List.mem_append.mp hq with h | h
      · exact b1.2.2 q h
      · exact hfr _ (hL q h)
  obtain ⟨t2, a2, b2⟩ := kk (hJ h g g2) (hJ_jn a1 hs hw2') (by rw [← a1g.1, ← hw2'.1, e1]; exact hz) T'.heap (locs ++ L) ls hw3 hS2 d1 T' rfl X'
  exact ⟨t2, st t2 a2, b2⟩
theorem J_callVG (X : hCx G p m c cc nL s args Ts own D cl K A) {y : MethodName} {by2 : ByteArray} {mL : Nat} {ret : Option FieldType} {ws : List Cond} {rm : Room} {mc ms nA : Nat} {As rest : List Value} {o : Option Value} {g g2 : hH} {a : Nat} {idx : Nat} (hs : Sub g h) {C : String} {T : u_T} {N ci : Nat} (hc : cl[ci]? = some (C, T, N)) {u : Unit} (hi : hIs g a ci = some u) (hM : Met l y ws rm (hPc G D cl K (.ref a :: As) g) (hQ D cl g o g2) mc ms (hF g)) (cw : CallW R s args own C idx y by2 mL ret ws rm mc ms nA) (hd : decode cc pc = .ok (.invokevirtual idx, 3)) (hA : As.length = nA) {st0 : List Value} (hs0 : (As.reverse ++ .ref a :: rest) = st0) (hW : (rest.map fun v => v.category).sum ≤ 8) (hk : k + mc ≤ R.cells) (hn : n + ms ≤ R.slots) (kk : ∀ h2, Jn h g g2 h2 → g.1 ≤ g2.1 → J p l e R s m args below meth c nL D cl A h2 lv (k + mc) (n + ms) Q (pc + 3) (o.toList ++ rest)) : J p l e R s m args below meth c nL D cl A h lv k n Q pc st0 := by
  subst hs0
  refine J_callG (a := (.ref a :: As).toArray) hs (fun H locs ls a1 b1 d1 => ?_) X.2.2.2.2.2.2 kk
  exact va_runV (As := As) (rest := rest) X.fix hM cw ⟨hPc_blind, h_recv X hc hi a1, fun U hU hW => hPc_at X a1 b1 U hU hW⟩ rfl hA d1.1 rfl (lv_room hW) hd ⟨hk, hn⟩
theorem J_callIG (X : hCx G p m c cc nL s args Ts own D cl K A) {y : MethodName} {by2 : ByteArray} {mL : Nat} {ws : List Cond} {rm : Room} {mc ms nA : Nat} {As rest : List Value} {o : Option Value} {g g2 : hH} {a : Nat} {idx : Nat} (hs : Sub g h) (hM : Met l y ws rm (hPc G D cl K (.ref a :: As) g) (hQ D cl g o g2) mc ms (hF g)) (cw : CallB R s args own idx y by2 mL none ws rm mc ms nA ∧ y.name = "<init>" ∧ (Cond.instanceMethod y).before args s = true) (hd : decode cc pc = .ok (.invokespecial idx, 3)) (hA : As.length = nA) {st0 : List Value} (hs0 : (As.reverse ++ .ref a :: rest) = st0) (hW : (rest.map fun v => v.category).sum ≤ 8) (hk : k + mc ≤ R.cells) (hn : n + ms ≤ R.slots) (kk : ∀ h2, Jn h g g2 h2 → g.1 ≤ g2.1 → J p l e R s m args below meth c nL D cl A h2 lv (k + mc) (n + ms) Q (pc + 3) (o.toList ++ rest)) : J p l e R s m args below meth c nL D cl A h lv k n Q pc st0 := by
  subst hs0
  refine J_callG (a := (.ref a :: As).toArray) hs (fun H locs ls a1 b1 d1 => ?_) X.2.2.2.2.2.2 kk
  exact va_runI (As := As) (rest := rest) X.fix hM cw ⟨hPc_blind, fun U hU hW => hPc_at X a1 b1 U hU hW⟩ rfl hA d1.1 rfl (lv_room hW) hd ⟨hk, hn⟩
end JOINT
