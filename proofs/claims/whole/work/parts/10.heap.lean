/-! THE PURE HEAP: its size, and what each cell of ours holds -/
abbrev hE : Type := (Nat × List Value) ⊕ (FieldType × vp_A)
abbrev hH : Type := Nat × (Nat → Option hE)
def hSet (h : hH) (a : Nat) (e : hE) : hH := (h.1, fun j => if j = a then some e else h.2 j)
def hAdd (h : hH) (e : hE) : hH := (h.1 + 1, fun j => if j = h.1 then some e else h.2 j)
/-- an object of class number ci -/
def hObj (h : hH) (a : Nat) (ci : Nat) : Option (List Value) := match h.2 a with
  | some (.inl o) => if o.1 = ci then some o.2 else none
  | _ => none
def hIs (h : hH) (a : Nat) (ci : Nat) : Option Unit := (hObj h a ci).bind fun _ => some ()
def hGetI (h : hH) (a ci k : Nat) : Option Int32 := (hObj h a ci).bind fun fs => match fs[k]? with
  | some (.int x) => some x
  | _ => none
def hGetL (h : hH) (a ci k : Nat) : Option Int64 := (hObj h a ci).bind fun fs => match fs[k]? with
  | some (.long x) => some x
  | _ => none
def hGetA (h : hH) (a ci k : Nat) : Option Nat := (hObj h a ci).bind fun fs => match fs[k]? with
  | some (.ref x) => some x
  | _ => none
def hGetO (h : hH) (a ci k : Nat) : Option (Option Nat) := (hObj h a ci).bind fun fs => match fs[k]? with
  | some (.ref x) => some (some x)
  | some .null => some none
  | _ => none
def hPut (h : hH) (a ci k : Nat) (v : Value) : Option hH := (hObj h a ci).bind fun fs => if k < fs.length then some (hSet h a (.inl (ci, fs.set k v))) else none
def hPutZ (h : hH) (a ci k : Nat) (x : Int32) : Option hH := if x = 0 ∨ x = 1 then hPut h a ci k (.int x) else none
/-- an array of a component type -/
def hArr (h : hH) (a : Nat) (ty : FieldType) : Option vp_A := match h.2 a with
  | some (.inr o) => if o.1 = ty then some o.2 else none
  | _ => none
def hLen (h : hH) (a : Nat) : Option Int32 := match h.2 a with
  | some (.inr o) => some (Int32.ofNat o.2.1)
  | _ => none
def hLdI (h : hH) (a : Nat) (ty : FieldType) (i : Int32) : Option Int32 := (hArr h a ty).bind fun v => match v.2 with
  | .inl f => if i < 0 ∨ v.1 ≤ i.toNatClampNeg then none else some (f i.toNatClampNeg)
  | _ => none
def hLdL (h : hH) (a : Nat) (i : Int32) : Option Int64 := (hArr h a .long).bind fun v => match v.2 with
  | .inr (.inl f) => if i < 0 ∨ v.1 ≤ i.toNatClampNeg then none else some (f i.toNatClampNeg)
  | _ => none
def hLdO (h : hH) (a : Nat) (C : String) (i : Int32) : Option (Option Nat) := (hArr h a (.object C)).bind fun v => match v.2 with
  | .inr (.inr (.inr (.inr f))) => if i < 0 ∨ v.1 ≤ i.toNatClampNeg then none else some (f i.toNatClampNeg)
  | _ => none
def hStI (h : hH) (a : Nat) (i x : Int32) : Option hH := (hArr h a .int).bind fun v => match v.2 with
  | .inl f => if i < 0 ∨ v.1 ≤ i.toNatClampNeg then none else some (hSet h a (.inr (.int, v.1, .inl (upd f i.toNatClampNeg x))))
  | _ => none
def hStB (h : hH) (a : Nat) (i x : Int32) : Option hH := (hArr h a .byte).bind fun v => match v.2 with
  | .inl f => if i < 0 ∨ v.1 ≤ i.toNatClampNeg then none else some (hSet h a (.inr (.byte, v.1, .inl (upd f i.toNatClampNeg x.toInt8.toInt32))))
  | _ => none
def hStZ (h : hH) (a : Nat) (i x : Int32) : Option hH := (hArr h a .boolean).bind fun v => match v.2 with
  | .inl f => if i < 0 ∨ v.1 ≤ i.toNatClampNeg then none else some (hSet h a (.inr (.boolean, v.1, .inl (upd f i.toNatClampNeg (x &&& 1)))))
  | _ => none
def hStL (h : hH) (a : Nat) (i : Int32) (x : Int64) : Option hH := (hArr h a .long).bind fun v => match v.2 with
  | .inr (.inl f) => if i < 0 ∨ v.1 ≤ i.toNatClampNeg then none else some (hSet h a (.inr (.long, v.1, .inr (.inl (vp_updL f i.toNatClampNeg x)))))
  | _ => none
/-- an object of class number ci into an array over the class C -/
def hStA (h : hH) (a : Nat) (C : String) (i : Int32) (b ci : Nat) : Option hH := (hObj h b ci).bind fun _ => (hArr h a (.object C)).bind fun v => match v.2 with
  | .inr (.inr (.inr (.inr f))) => if i < 0 ∨ v.1 ≤ i.toNatClampNeg then none else some (hSet h a (.inr (.object C, v.1, .inr (.inr (.inr (.inr (va_up f i.toNatClampNeg (some b))))))))
  | _ => none
def hCase {β : Type} (x : Option Nat) (n : β) (f : Nat → β) : β := match x with
  | none => n
  | some a => f a
theorem hb_some {α β : Type} {x : Option α} {f : α → Option β} {y : β} (hm : x.bind f = some y) : ∃ v, x = some v ∧ f v = some y := by
  cases x with
  | none => cases hm
  | some v => exact ⟨v, rfl, hm⟩
theorem hif_t {β : Type} {P : Prop} {d : Decidable P} {A E : Option β} {o : Option β} (hm : (@ite _ P d A E) = o) (hp : P) : A = o := by rw [if_pos hp] at hm; exact hm
theorem hif_f {β : Type} {P : Prop} {d : Decidable P} {A E : Option β} {o : Option β} (hm : (@ite _ P d A E) = o) (hp : ¬ P) : E = o := by rw [if_neg hp] at hm; exact hm
theorem hc_n {β : Type} {x : Option Nat} {n : β} {f : Nat → β} {o : β} (hm : hCase x n f = o) (hx : x = none) : n = o := by subst hx; exact hm
theorem hc_s {β : Type} {x : Option Nat} {n : β} {f : Nat → β} {o : β} {a : Nat} (hm : hCase x n f = o) (hx : x = some a) : f a = o := by subst hx; exact hm
theorem hrf {x : Option Nat} {a : Nat} (e : x = some a) : va_rf x = .ref a := by subst e; rfl
theorem hrf_cat (x : Option Nat) : (va_rf x).category = 1 := by cases x <;> rfl
theorem hObj_at {h : hH} {a ci : Nat} {fs : List Value} (e : hObj h a ci = some fs) : h.2 a = some (.inl (ci, fs)) := by
  unfold hObj at e
  split at e
  · rename_i o ho
    split at e
    · rename_i hc
      cases e
      rw [ho, ← hc]
    · cases e
  · cases e
theorem hArr_at {h : hH} {a : Nat} {ty : FieldType} {v : vp_A} (e : hArr h a ty = some v) : h.2 a = some (.inr (ty, v)) := by
  unfold hArr at e
  split at e
  · rename_i o ho
    split at e
    · rename_i hc
      cases e
      rw [ho, ← hc]
    · cases e
  · cases e
theorem hGetI_at {h : hH} {a ci k : Nat} {x : Int32} (e : hGetI h a ci k = some x) : ∃ fs, h.2 a = some (.inl (ci, fs)) ∧ fs[k]? = some (.int x) := by
  obtain ⟨fs, e1, e2⟩ := hb_some e
  refine ⟨fs, hObj_at e1, ?_⟩
  split at e2
  · rename_i y hy
    cases e2
    exact hy
  · cases e2
theorem hGetL_at {h : hH} {a ci k : Nat} {x : Int64} (e : hGetL h a ci k = some x) : ∃ fs, h.2 a = some (.inl (ci, fs)) ∧ fs[k]? = some (.long x) := by
  obtain ⟨fs, e1, e2⟩ := hb_some e
  refine ⟨fs, hObj_at e1, ?_⟩
  split at e2
  · rename_i y hy
    cases e2
    exact hy
  · cases e2
theorem hGetA_at {h : hH} {a ci k : Nat} {x : Nat} (e : hGetA h a ci k = some x) : ∃ fs, h.2 a = some (.inl (ci, fs)) ∧ fs[k]? = some (.ref x) := by
  obtain ⟨fs, e1, e2⟩ := hb_some e
  refine ⟨fs, hObj_at e1, ?_⟩
  split at e2
  · rename_i y hy
    cases e2
    exact hy
  · cases e2
theorem hGetO_at {h : hH} {a ci k : Nat} {x : Option Nat} (e : hGetO h a ci k = some x) : ∃ fs, h.2 a = some (.inl (ci, fs)) ∧ fs[k]? = some (va_rf x) := by
  obtain ⟨fs, e1, e2⟩ := hb_some e
  refine ⟨fs, hObj_at e1, ?_⟩
  split at e2
  · rename_i y hy
    cases e2
    exact hy
  · rename_i hy
    cases e2
    exact hy
  · cases e2
theorem hPut_at {h : hH} {a ci k : Nat} {v : Value} {h2 : hH} (e : hPut h a ci k v = some h2) : ∃ fs, h.2 a = some (.inl (ci, fs)) ∧ k < fs.length ∧ h2 = hSet h a (.inl (ci, fs.set k v)) := by
  obtain ⟨fs, e1, e2⟩ := hb_some e
  refine ⟨fs, hObj_at e1, ?_⟩
  split at e2
  · rename_i hk
    cases e2
    exact ⟨hk, rfl⟩
  · cases e2
theorem hLdI_at {h : hH} {a : Nat} {ty : FieldType} {i x : Int32} (e : hLdI h a ty i = some x) : ∃ n f, h.2 a = some (.inr (ty, n, .inl f)) ∧ vp_in i n ∧ x = f i.toNatClampNeg := by
  obtain ⟨⟨n, v⟩, e1, e2⟩ := hb_some e
  have e1 := hArr_at e1
  rcases v with f | v
  · dsimp only at e2
    split at e2
    · cases e2
    · rename_i hi
      cases e2
      exact ⟨n, f, e1, hi, rfl⟩
  · simp at e2
theorem hLdL_at {h : hH} {a : Nat} {i : Int32} {x : Int64} (e : hLdL h a i = some x) : ∃ n f, h.2 a = some (.inr (.long, n, .inr (.inl f))) ∧ vp_in i n ∧ x = f i.toNatClampNeg := by
  obtain ⟨⟨n, v⟩, e1, e2⟩ := hb_some e
  have e1 := hArr_at e1
  rcases v with f | f | v
  · simp at e2
  · dsimp only at e2
    split at e2
    · cases e2
    · rename_i hi
      cases e2
      exact ⟨n, f, e1, hi, rfl⟩
  · simp at e2
theorem hLdO_at {h : hH} {a : Nat} {C : String} {i : Int32} {x : Option Nat} (e : hLdO h a C i = some x) : ∃ n f, h.2 a = some (.inr (.object C, n, .inr (.inr (.inr (.inr f))))) ∧ vp_in i n ∧ x = f i.toNatClampNeg := by
  obtain ⟨⟨n, v⟩, e1, e2⟩ := hb_some e
  have e1 := hArr_at e1
  rcases v with f | f | f | f | f
  · simp at e2
  · simp at e2
  · simp at e2
  · simp at e2
  · dsimp only at e2
    split at e2
    · cases e2
    · rename_i hi
      cases e2
      exact ⟨n, f, e1, hi, rfl⟩
theorem hStI_at {h : hH} {a : Nat} {i x : Int32} {h2 : hH} (e : hStI h a i x = some h2) : ∃ n f, h.2 a = some (.inr (.int, n, .inl f)) ∧ vp_in i n ∧ h2 = hSet h a (.inr (.int, n, .inl (upd f i.toNatClampNeg x))) := by
  obtain ⟨⟨n, v⟩, e1, e2⟩ := hb_some e
  have e1 := hArr_at e1
  rcases v with f | v
  · dsimp only at e2
    split at e2
    · cases e2
    · rename_i hi
      cases e2
      exact ⟨n, f, e1, hi, rfl⟩
  · simp at e2
theorem hStB_at {h : hH} {a : Nat} {i x : Int32} {h2 : hH} (e : hStB h a i x = some h2) : ∃ n f, h.2 a = some (.inr (.byte, n, .inl f)) ∧ vp_in i n ∧ h2 = hSet h a (.inr (.byte, n, .inl (upd f i.toNatClampNeg x.toInt8.toInt32))) := by
  obtain ⟨⟨n, v⟩, e1, e2⟩ := hb_some e
  have e1 := hArr_at e1
  rcases v with f | v
  · dsimp only at e2
    split at e2
    · cases e2
    · rename_i hi
      cases e2
      exact ⟨n, f, e1, hi, rfl⟩
  · simp at e2
theorem hStZ_at {h : hH} {a : Nat} {i x : Int32} {h2 : hH} (e : hStZ h a i x = some h2) : ∃ n f, h.2 a = some (.inr (.boolean, n, .inl f)) ∧ vp_in i n ∧ h2 = hSet h a (.inr (.boolean, n, .inl (upd f i.toNatClampNeg (x &&& 1)))) := by
  obtain ⟨⟨n, v⟩, e1, e2⟩ := hb_some e
  have e1 := hArr_at e1
  rcases v with f | v
  · dsimp only at e2
    split at e2
    · cases e2
    · rename_i hi
      cases e2
      exact ⟨n, f, e1, hi, rfl⟩
  · simp at e2
theorem hStL_at {h : hH} {a : Nat} {i : Int32} {x : Int64} {h2 : hH} (e : hStL h a i x = some h2) : ∃ n f, h.2 a = some (.inr (.long, n, .inr (.inl f))) ∧ vp_in i n ∧ h2 = hSet h a (.inr (.long, n, .inr (.inl (vp_updL f i.toNatClampNeg x)))) := by
  obtain ⟨⟨n, v⟩, e1, e2⟩ := hb_some e
  have e1 := hArr_at e1
  rcases v with f | f | v
  · simp at e2
  · dsimp only at e2
    split at e2
    · cases e2
    · rename_i hi
      cases e2
      exact ⟨n, f, e1, hi, rfl⟩
  · simp at e2
theorem hStA_at {h : hH} {a b ci : Nat} {C : String} {i : Int32} {h2 : hH} (e : hStA h a C i b ci = some h2) : ∃ vs n f, h.2 b = some (.inl (ci, vs)) ∧ h.2 a = some (.inr (.object C, n, .inr (.inr (.inr (.inr f))))) ∧ vp_in i n ∧ h2 = hSet h a (.inr (.object C, n, .inr (.inr (.inr (.inr (va_up f i.toNatClampNeg (some b))))))) := by
  obtain ⟨vs, e0, e⟩ := hb_some e
  obtain ⟨⟨n, v⟩, e1, e2⟩ := hb_some e
  have e1 := hArr_at e1
  rcases v with f | f | f | f | f
  · simp at e2
  · simp at e2
  · simp at e2
  · simp at e2
  · dsimp only at e2
    split at e2
    · cases e2
    · rename_i hi
      cases e2
      exact ⟨vs, n, f, hObj_at e0, e1, hi, rfl⟩
theorem hLen_at {h : hH} {a : Nat} {x : Int32} (e : hLen h a = some x) : ∃ ty v, h.2 a = some (.inr (ty, v)) ∧ x = Int32.ofNat v.1 := by
  unfold hLen at e
  split at e
  · rename_i o ho
    cases e
    exact ⟨o.1, o.2, ho, rfl⟩
  · cases e
/-! THE PURE HEAP AND THE MACHINE's -/
/-- what a method with this pure heap may change: its cells, and those that it makes -/
def hF (h : hH) : Nat → Prop := fun q => h.1 ≤ q ∨ h.2 q ≠ none
def hx_at (D : va_G) (cl : List vw_C) (U : State) (H : Heap) (a : Nat) (x : hE) : Prop := match x with
  | .inl o => ∃ r : vw_C, cl[o.1]? = some r ∧ o.2.length = r.2.2 ∧ t_OB a (D.1 o.1) r.2.2 (D.2 o.1) H (vp_V o.2)
  | .inr o => ∃ cA : ClassId, ArrOfT U cA o.1 ∧ va_RA U cA o.1 ∧ H[a]? = some (vp_cell cA o.2)
/-- the pure heap describes the machine's, within the cells A -/
def hw (D : va_G) (cl : List vw_C) (A : Nat → Prop) (U : State) (H : Heap) (h : hH) : Prop := H.size = h.1 ∧ ∀ (a : Nat) (x : hE), h.2 a = some x → A a ∧ hx_at D cl U H a x
theorem hx_at.lt {D : va_G} {cl : List vw_C} {U : State} {H : Heap} {a : Nat} {x : hE} (t : hx_at D cl U H a x) : a < H.size := by
  cases x with
  | inl o =>
    obtain ⟨r, -, -, cell, h2, -⟩ := t
    exact (Array.getElem?_eq_some_iff.mp h2).1
  | inr o =>
    obtain ⟨cA, -, -, h2⟩ := t
    exact (Array.getElem?_eq_some_iff.mp h2).1
theorem hx_at.kept {D : va_G} {cl : List vw_C} {U : State} {H H1 : Heap} {a : Nat} {x : hE} (t : hx_at D cl U H a x) (hq : H1[a]? = H[a]?) : hx_at D cl U H1 a x := by
  cases x with
  | inl o =>
    obtain ⟨r, h1, h2, h3⟩ := t
    exact ⟨r, h1, h2, h3.kept hq⟩
  | inr o =>
    obtain ⟨cA, h1, h2, h3⟩ := t
    exact ⟨cA, h1, h2, hq.trans h3⟩
theorem hx_at.moved {D : va_G} {cl : List vw_C} {u U : State} {H : Heap} {a : Nat} {x : hE} (hvm : u.vm.Alike U.vm) (t : hx_at D cl u H a x) : hx_at D cl U H a x := by
  cases x with
  | inl o => exact t
  | inr o =>
    obtain ⟨cA, h1, h2, h3⟩ := t
    exact ⟨cA, arrOfT_moved hvm h1, h2.moved hvm, h3⟩
theorem hw.moved {D : va_G} {cl : List vw_C} {A : Nat → Prop} {u U : State} {H : Heap} {h : hH} (hvm : u.vm.Alike U.vm) (t : hw D cl A u H h) : hw D cl A U H h :=
  ⟨t.1, fun a x hx => ⟨(t.2 a x hx).1, (t.2 a x hx).2.moved hvm⟩⟩
theorem hw.wk {D : va_G} {cl : List vw_C} {A A2 : Nat → Prop} {U : State} {H : Heap} {h : hH} (t : hw D cl A U H h) (hA : ∀ q, A q → A2 q) : hw D cl A2 U H h :=
  ⟨t.1, fun a x hx => ⟨hA a (t.2 a x hx).1, (t.2 a x hx).2⟩⟩
theorem hw.self {D : va_G} {cl : List vw_C} {A : Nat → Prop} {U : State} {H : Heap} {h : hH} (t : hw D cl A U H h) : hw D cl (hF h) U H h :=
  ⟨t.1, fun a x hx => ⟨Or.inr (by rw [hx]; exact fun q => by cases q), (t.2 a x hx).2⟩⟩
theorem hw.free {D : va_G} {cl : List vw_C} {A : Nat → Prop} {U : State} {H H0 : Heap} {h : hH} (t : hw D cl A U H h) (hA : ∀ q, H0.size ≤ q → A q) (hz : H0.size ≤ H.size) : ∀ q, hF h q → A q := by
  intro q hq
  rcases hq with hq | hq
  · exact hA q (Nat.le_trans hz (by rw [t.1]; exact hq))
  · cases hx : h.2 q with
    | none => exact absurd hx hq
    | some x => exact (t.2 q x hx).1
theorem hw.set {D : va_G} {cl : List vw_C} {A : Nat → Prop} {U : State} {H H1 : Heap} {h : hH} {a : Nat} {x : hE} (t : hw D cl A U H h) (z : H1.size = H.size) (oq : ∀ q : Nat, q ≠ a → H1[q]? = H[q]?) (hb : A a) (hx : hx_at D cl U H1 a x) : hw D cl A U H1 (hSet h a x) := by
  refine ⟨z.trans t.1, fun b y hy => ?_⟩
  by_cases hba : b = a
  · subst hba
    have hy : (if b = b then some x else h.2 b) = some y := hy
    rw [if_pos rfl] at hy
    cases hy
    exact ⟨hb, hx⟩
  · have hy : (if b = a then some x else h.2 b) = some y := hy
    rw [if_neg hba] at hy
    exact ⟨(t.2 b y hy).1, (t.2 b y hy).2.kept (oq b hba)⟩
theorem hw.add {D : va_G} {cl : List vw_C} {A : Nat → Prop} {U : State} {H H1 : Heap} {h : hH} {x : hE} (t : hw D cl A U H h) (z : H1.size = H.size + 1) (oq : ∀ q : Nat, q < H.size → H1[q]? = H[q]?) (hb : A H.size) (hx : hx_at D cl U H1 H.size x) : hw D cl A U H1 (hAdd h x) := by
  have hs := t.1
  refine ⟨by rw [z, hs]; rfl, fun b y hy => ?_⟩
  by_cases hba : b = h.1
  · have hy : (if b = h.1 then some x else h.2 b) = some y := hy
    rw [if_pos hba] at hy
    cases hy
    rw [hba, ← hs]
    exact ⟨hb, hx⟩
  · have hy : (if b = h.1 then some x else h.2 b) = some y := hy
    rw [if_neg hba] at hy
    have h9 := t.2 b y hy
    exact ⟨h9.1, h9.2.kept (oq b h9.2.lt)⟩
theorem hS_add {A : Nat → Prop} {H0 H H1 : Heap} {locs : List Loc} (t : va_S A H0 H locs) (z : H1.size = H.size + 1) (oq : ∀ q : Nat, q < H.size → H1[q]? = H[q]?) : va_S A H0 H1 locs :=
  ⟨Nat.le_trans t.1 (by omega), fun x h1 h2 => (oq x (Nat.lt_of_lt_of_le h1 t.1)).trans (t.2.1 x h1 h2), t.2.2⟩
/-- what stays as it is: the classes, the nest's links, the arrays of references, the texts -/
abbrev hNt : Type := String × Nat × String × String × String × String
def hNl (t : hNt) : Cond := .fieldLinkNest t.1 t.2.1 t.2.2.1 t.2.2.2.1 t.2.2.2.2.1 t.2.2.2.2.2
abbrev hSt : Type := List hNt × List String × String × List (Nat × String × List Int32)
def hst (G : hSt) (D : va_G) (cl : List vw_C) (K : (Nat → Nat) × (Nat → Nat)) (A : Nat → Prop) (U : State) (H : Heap) : Prop :=
  (∀ (c : Nat) (q : vw_C), cl[c]? = some q → u_Kn U q.1 q.2.1 q.2.2 (D.1 c) (D.2 c)) ∧ (∀ t ∈ G.1, va_Nw (hNl t) U) ∧ (∀ C ∈ G.2.1, va_AO C U) ∧
  vk_S G.2.2.2.length (G.2.2.2.map fun q => q.2.2.length) (G.2.2.2.map fun q => q.2.2) K.1 K.2 A U H ∧ (∀ (i : Nat) (q : Nat × String × List Int32), G.2.2.2[i]? = some q → vk_R G.2.2.1 q.1 q.2.1 (K.1 i) U) ∧ va_Z "java/lang/String" "COMPACT_STRINGS" "Z" (.int 1) A U H ∧ va_Zq "jdk/internal/util/Preconditions" "SIOOBE_FORMATTER" "Ljava/util/function/BiFunction;" A U H
theorem hst.to {G : hSt} {D : va_G} {cl : List vw_C} {K : (Nat → Nat) × (Nat → Nat)} {A A2 : Nat → Prop} {s U : State} {H0 H : Heap} (t : hst G D cl K A s H0) (hW : s.WarmedH U.vm) (hAB : ∀ q, A2 q → A q) (hq : ∀ a : Nat, a < H0.size → ¬ A a → H[a]? = H0[a]?) : hst G D cl K A2 U H :=
  ⟨fun c q h => u_Kn_moved hW.alike (t.1 c q h), fun w h => (t.2.1 w h).warmF hW, fun C h => (t.2.2.1 C h).moved hW.alike, ((t.2.2.2.1.moved hW.alike).kept hq).narrow hAB, fun i q h => (t.2.2.2.2.1 i q h).warm hW, ((t.2.2.2.2.2.1.moved hW.alike).kept hq).narrow hAB, ((t.2.2.2.2.2.2.moved hW.alike).kept hq).narrow hAB⟩
theorem hst.same {G : hSt} {D : va_G} {cl : List vw_C} {K : (Nat → Nat) × (Nat → Nat)} {A : Nat → Prop} {u U : State} {H : Heap} (t : hst G D cl K A u H) (hv : u.vm = U.vm) : hst G D cl K A U H :=
  have hal : u.vm.Alike U.vm := hv ▸ Vm.Alike.refl u.vm
  ⟨fun c q h => u_Kn_moved hal (t.1 c q h), fun w h => va_Nw.same rfl hv (t.2.1 w h), fun C h => (t.2.2.1 C h).moved hal, t.2.2.2.1.moved hal, fun i q h => (t.2.2.2.2.1 i q h).same hv.symm, t.2.2.2.2.2.1.moved hal, t.2.2.2.2.2.2.moved hal⟩
def hPc (G : hSt) (D : va_G) (cl : List vw_C) (K : (Nat → Nat) × (Nat → Nat)) (av : List Value) (h : hH) : Array Value → State → Prop := fun v U => v = av.toArray ∧ hw D cl (fun _ => True) U U.heap h ∧ hst G D cl K (hF h) U U.heap
def hQ (D : va_G) (cl : List vw_C) (h0 : hH) (o : Option Value) (h : hH) : Array Value → State → Outcome → State → Prop := fun _ st oc t => oc = .returned o ∧ hw D cl (hF h0) t t.heap h ∧ st.heap.size ≤ t.heap.size ∧ ∀ q : Nat, q < st.heap.size → ¬ hF h0 q → t.heap[q]? = st.heap[q]?
/-- a walk's surroundings -/
def hCx (G : hSt) (p : Program) (m : MethodId) (c : Code) (cc : ByteArray) (nL : Nat) (s : State) (args : Array Value) (Ts : List Cond) (own : String) (D : va_G) (cl : List vw_C) (K : (Nat → Nat) × (Nat → Nat)) (A : Nat → Prop) : Prop :=
  p.tables.exec = Jvm.exec ∧ c.code = cc ∧ c.maxLocals = nL ∧ s.vm.findClass own = some m.cls ∧ (∀ w ∈ Ts, w.before args s = true) ∧ hst G D cl K A s s.heap ∧ ∀ q, s.heap.size ≤ q → A q
theorem hCx.fix {G : hSt} {p : Program} {m : MethodId} {c : Code} {cc : ByteArray} {nL : Nat} {s : State} {args : Array Value} {Ts : List Cond} {own : String} {D : va_G} {cl : List vw_C} {K : (Nat → Nat) × (Nat → Nat)} {A : Nat → Prop} (X : hCx G p m c cc nL s args Ts own D cl K A) : CallFix p m c cc nL s args Ts own := ⟨X.1, X.2.1, X.2.2.1, X.2.2.2.1, X.2.2.2.2.1⟩
theorem hnz {β : Type} {P : Prop} {d : Decidable P} {E : Option β} {o : β} (hm : (@ite _ P d none E) = some o) : ¬ P ∧ E = some o := by
  by_cases hp : P
  · rw [if_pos hp] at hm; cases hm
  · rw [if_neg hp] at hm; exact ⟨hp, hm⟩
theorem hrf_nar (x : Option Nat) {C : String} : narrow (.object C) (va_rf x) = va_rf x := by cases x <;> rfl
theorem hrf_fit (x : Option Nat) {C : String} : fits (.object C) (va_rf x) = true := by cases x <;> rfl
