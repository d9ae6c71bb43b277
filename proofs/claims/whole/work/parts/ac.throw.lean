/-! THE THROW -/
def exN : String := "java/lang/IndexOutOfBoundsException"
def owN : List String := ["java/lang/RuntimeException", "java/lang/Exception"]
def owA : List Cond := Bundle.ownAtoms "LicenceTexts" 151 exN owN
def owH (w : Cond) : Bool := match w with
  | .isRef _ => true
  | .laysStatic _ _ _ => true
  | _ => false
set_option maxRecDepth 100000 in
theorem ow_in : owA.all (fun a => owH a || decide (a ∈ lw_tbl)) = true := by decide +kernel
set_option maxRecDepth 100000 in
theorem ow_tab : owA.all (fun a => owH a || (a.onTables && a.keepsFace)) = true := by decide +kernel
theorem ow_held : owA.filter owH = [.laysStatic Bundle.tN "UNASSIGNED_STACK" Bundle.steD, .laysStatic Bundle.tN "SUPPRESSED_SENTINEL" Bundle.listD, .isRef (.static Bundle.tN "UNASSIGNED_STACK" Bundle.steD), .isRef (.static Bundle.tN "SUPPRESSED_SENTINEL" Bundle.listD)] := by decide +kernel
theorem no_tr {l : Launch} {e : Env} (ha : l.admits e) (hf : l.flags = flags0) : e.platform.stackTraces = false := by
  have h := ha.2.2.2.2.1
  rw [h]
  show l.stackTraces = false
  unfold Launch.stackTraces
  rw [hf]
  decide
/-- a static of Throwable that holds a reference or null -/
def zT (n d : String) (A : Nat → Prop) (U : State) (H : Heap) : Prop :=
  ∃ (c : ClassId) (k : Class) (i : Nat) (f : Field) (a : Nat) (cell : Cell) (v : Value), U.vm.findClass Bundle.tN = some c ∧ U.fieldFound? Bundle.tN n d = some (c, k, i, f) ∧ f.isStatic = true ∧ k.statics = some a ∧ H[a]? = some cell ∧ cell.vm.isStatics = true ∧ cell.cls = c ∧ f.slot < cell.slots.size ∧ k.staticTypes[f.slot]? = some f.type ∧ cell.slots[f.slot]? = some v ∧ v.isRef = true ∧ ¬ A a
theorem zT.moved {n d : String} {A : Nat → Prop} {u U : State} {H : Heap} (hvm : u.vm.Alike U.vm) (h : zT n d A u H) : zT n d A U H := by
  obtain ⟨c, k, i, f, a, cell, v, h1, h2, h3, h4, h5, h6, h7, h8, h9, h10⟩ := h
  obtain ⟨k', hi', he⟩ := State.fieldFound?_setVm hvm h2
  exact ⟨c, k', i, f, a, cell, v, by rw [hvm.findClass]; exact h1, hi', h3, by rw [he]; exact h4, h5, h6, h7, h8, by rw [he]; exact h9, h10⟩
theorem zT.kept {n d : String} {A : Nat → Prop} {U : State} {H H1 : Heap} (h : zT n d A U H) (hq : ∀ a : Nat, a < H.size → ¬ A a → H1[a]? = H[a]?) : zT n d A U H1 := by
  obtain ⟨c, k, i, f, a, cell, v, h1, h2, h3, h4, h5, h6⟩ := h
  exact ⟨c, k, i, f, a, cell, v, h1, h2, h3, h4, by rw [hq a (Array.getElem?_eq_some_iff.mp h5).1 h6.2.2.2.2.2.2]; exact h5, h6⟩
theorem zT.narrow {n d : String} {A B : Nat → Prop} {U : State} {H : Heap} (h : zT n d A U H) (hAB : ∀ q, B q → A q) : zT n d B U H := by
  obtain ⟨c, k, i, f, a, cell, v, h1, h2, h3, h4, h5, h6, h7, h8, h9, h10, h11, h12⟩ := h
  exact ⟨c, k, i, f, a, cell, v, h1, h2, h3, h4, h5, h6, h7, h8, h9, h10, h11, fun q => h12 (hAB a q)⟩
theorem zT.lays {n d : String} {A : Nat → Prop} {U : State} {args : Array Value} (h : zT n d A U U.heap) : (Cond.laysStatic Bundle.tN n d).before args U = true := by
  obtain ⟨c, k, i, f, a, cell, v, h1, h2, h3, h4, h5, h6, h7, h8, h9, h10, h11, h12⟩ := h
  simp [Cond.before, Cond.holds, Cond.value, h1, h2, h3, h4, h5, h6, h7, h8, h9]
theorem zT.ref {n d : String} {A : Nat → Prop} {U : State} {args : Array Value} (h : zT n d A U U.heap) : (Cond.isRef (.static Bundle.tN n d)).before args U = true := by
  obtain ⟨c, k, i, f, a, cell, v, h1, h2, h3, h4, h5, h6, h7, h8, h9, h10, h11, h12⟩ := h
  cases v <;> simp [Value.isRef] at h11 <;> simp [Cond.before, Cond.holds, Cond.value, Term.eval, State.fieldNamed?, h2, h3, h4, h5, h6, h10]
theorem zT.of {n d : String} {A : Nat → Prop} {s : State} {args : Array Value} (h1 : (Cond.laysStatic Bundle.tN n d).before args s = true) (h2 : (Cond.isRef (.static Bundle.tN n d)).before args s = true) (hA : ∀ a : Nat, a < s.heap.size → ¬ A a) : zT n d A s s.heap := by
  obtain ⟨c, k, i, f, a, cell, hc, hi, hst, ha, hcell, hs, hcls, hlt, hty⟩ := Cond.laysStatic_spec h1
  refine ⟨c, k, i, f, a, cell, cell.slots[f.slot], hc, hi, hst, ha, hcell, hs, hcls, hlt, hty, by simp [hlt], ?_, hA a (Array.getElem?_eq_some_iff.mp hcell).1⟩
  simp [Cond.before, Cond.holds, Cond.value, Term.eval, State.fieldNamed?, hi, hst, ha, hcell, hs, hlt] at h2
  revert h2
  cases cell.slots[f.slot] <;> simp [Value.isRef]
