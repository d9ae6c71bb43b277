/-- what a throw wants of a state -/
def tH (A : Nat → Prop) (U : State) (H : Heap) : Prop := zT "UNASSIGNED_STACK" Bundle.steD A U H ∧ zT "SUPPRESSED_SENTINEL" Bundle.listD A U H ∧ (∀ w ∈ owA, owH w = false → w.before #[] U = true) ∧ ∃ q, vk_R "LicenceTexts" 149 "no such table or number" q U
theorem ow_spec {w : Cond} (h : w ∈ owA) (hh : owH w = false) : w.onTables = true ∧ w.keepsFace = true := by
  have := List.all_eq_true.mp ow_tab w h
  rw [hh] at this
  simpa using this
theorem tH.to {A A2 : Nat → Prop} {s U : State} {H0 H : Heap} (t : tH A s H0) (hW : s.WarmedH U.vm) (hAB : ∀ q, A2 q → A q) (hq : ∀ a : Nat, a < H0.size → ¬ A a → H[a]? = H0[a]?) : tH A2 U H := by
  obtain ⟨t1, t2, t3, q, t4⟩ := t
  refine ⟨((t1.moved hW.alike).kept hq).narrow hAB, ((t2.moved hW.alike).kept hq).narrow hAB, fun w hw hh => ?_, q, t4.warm hW⟩
  obtain ⟨h1, h2⟩ := ow_spec hw hh
  have h3 : w.before #[] (s.setVm U.vm) = true := Cond.before_shiftedFace (State.Shifted.of_warmed hW) w h2 (t3 w hw hh)
  exact va_tabs (u := s.setVm U.vm) (U := U) h1 rfl h3
theorem tH.same {A : Nat → Prop} {u U : State} {H : Heap} (t : tH A u H) (hv : u.vm = U.vm) : tH A U H := by
  obtain ⟨t1, t2, t3, q, t4⟩ := t
  have hal : u.vm.Alike U.vm := hv ▸ Vm.Alike.refl u.vm
  exact ⟨t1.moved hal, t2.moved hal, fun w hw hh => va_tabs (ow_spec hw hh).1 hv (t3 w hw hh), q, t4.same hv.symm⟩
theorem tH.atoms {A : Nat → Prop} {U : State} {args : Array Value} (t : tH A U U.heap) : ∀ w ∈ owA, w.before args U = true := by
  intro w hw
  cases hh : owH w with
  | false => exact va_tabs (ow_spec hw hh).1 rfl (t.2.2.1 w hw hh)
  | true =>
    have h1 : w ∈ owA.filter owH := List.mem_filter.mpr ⟨hw, hh⟩
    rw [ow_held] at h1
    simp only [List.mem_cons, List.not_mem_nil, or_false] at h1
    rcases h1 with rfl | rfl | rfl | rfl
    · exact t.1.lays
    · exact t.2.1.lays
    · exact t.1.ref
    · exact t.2.1.ref
/-- the end of a method that throws -/
def hQT (D : va_G) (cl : List vw_C) (h0 h : hH) : Array Value → State → Outcome → State → Prop := fun _ st oc t => ∃ (x : Addr) (ce : Cell), oc = .threw x ∧ t.heap[x]? = some ce ∧ ce.vm = .none ∧ st.vm.findClass exN = some ce.cls ∧ hw D cl (hF h0) t t.heap (h.1 + 1, h.2) ∧ st.heap.size ≤ t.heap.size ∧ ∀ q : Nat, q < st.heap.size → ¬ hF h0 q → t.heap[q]? = st.heap[q]?
/-- a throw's frame: the tables are warmer, nothing moved but the slots L and at most k new cells of n slots -/
def thE (s : State) (o : Outcome) (t : State) (L : List Loc) (k n : Nat) : Prop := (∃ x, o = .threw x) ∧ s.WarmedH t.vm ∧ s.sameButNew ({ t with vm := s.vm } : State) L k n
def MQT (below : List Frame) (Qc : Array Value → State → Outcome → State → Prop) (a : Array Value) (s : State) (mc ms : Nat) (free : Addr → Prop) : State → Prop := fun t =>
  ∃ o, t.status = .running ∧ Ended t below o ∧ Qc a s o t ∧ ∃ L, thE s o t L mc ms ∧ ∀ q ∈ L, free q.base
set_option maxRecDepth 100000 in
theorem ow_cl : Cond.classLink "LicenceTexts" 147 exN ∈ T0 := List.mem_filter.mpr ⟨by decide +kernel, by decide +kernel⟩
set_option maxRecDepth 100000 in
theorem ow_ins : Cond.instantiable exN 6 ∈ T0 := List.mem_filter.mpr ⟨by decide +kernel, by decide +kernel⟩
set_option maxRecDepth 100000 in
theorem ow_ini : Cond.initialized exN ∈ T0 := List.mem_filter.mpr ⟨by decide +kernel, by decide +kernel⟩
/-- cells that no slot of has changed are the same -/
theorem same_cells {s U : State} {k n : Nat} (h : s.sameButNew U [] k n) : ∀ q : Nat, q < s.heap.size → U.heap[q]? = s.heap[q]? := by
  intro q hq
  have hc : s.heap[q]? = some s.heap[q] := Array.getElem?_eq_getElem hq
  obtain ⟨c', h1, h2, h3, h4⟩ := h.2.2.2.2.2 q _ hc
  rw [h1, hc]
  have hs : c'.slots = (s.heap[q]).slots := by
    apply Array.ext_getElem?
    intro i
    exact h4 i (by simp)
  rw [h2, hs]
section JTHROW
variable {p : Program} {l : Launch} {e : Env} {R : Room} {s : State} {m : MethodId} {args : Array Value} {below : List Frame} {meth : Method} {c : Code} {cc : ByteArray} {nL : Nat} {D : va_G} {K : (Nat → Nat) × (Nat → Nat)} {h h0 : hH} {lv : List (Nat × Value)} {k n pc : Nat}
theorem J_throw (X : hCx hG p m c cc nL s args T0 "LicenceTexts" D cls0 K (hF h0)) (hfl : l.flags = flags0) (Z : tH (hF h0) s s.heap) (hlk : meth.locks = false) (hexc : c.exceptionTable.isEmpty = true)
    (hd0 : decode cc pc = .ok (.new 147, 3)) (hd3 : decode cc (pc + 3) = .ok (.dup, 1)) (hd4 : decode cc (pc + 4) = .ok (.ldc 149, 2)) (hd6 : decode cc (pc + 6) = .ok (.invokespecial 151, 3)) (hd9 : decode cc (pc + 9) = .ok (.athrow, 1))
    (hfr : 6 ≤ R.frames) (hlo : 90 ≤ R.locals) (hk : k + 1 ≤ R.cells) (hn : n + 6 ≤ R.slots) {mc ms : Nat} (hmc : k + 1 ≤ mc) (hms : n + 6 ≤ ms) :
    J p l e R s m args below meth c nL D cls0 (hF h0) h lv k n (MQT below (hQT D cls0 h0 h) args s mc ms (hF h0)) pc [] := by
  intro H locs ls a1 b1 d1 T hT XS
  have htr := no_tr XS.admits hfl
  have X' := reroot XS (by omega) (by omega)
  obtain ⟨s', hs'⟩ : ∃ q, q = T.setFrames (.invoking m args :: below) := ⟨_, rfl⟩
  rw [← hs'] at X'
  have hv' : s'.vm = T.vm := by rw [hs']; rfl
  have hh' : s'.heap = H := by rw [hs']; exact hT
  have hW' : s.WarmedH s'.vm := by rw [hv']; exact XS.warmed
  have Z' : tH (hF h0) s' s'.heap := by rw [hh']; exact Z.to hW' (fun _ q => q) b1.2.1
  have hown : s'.vm.findClass "LicenceTexts" = some m.cls := by rw [hW'.alike.findClass]; exact X.2.2.2.1
  have w' : ∀ w ∈ T0, w.before args s' = true := fun w hw => word_at hW' (T0_good hw).2 (X.2.2.2.2.1 w hw)
  obtain ⟨cX, kX, hcX, hkX, -⟩ := Cond.instantiable_spec (w' _ ow_ins)
  obtain ⟨q, hq⟩ := Z'.2.2.2
  have Kk : W p l e { R with cells := R.cells - k, slots := R.slots - n } s' m args below meth c H [] 0 0 (fun U => U.status = .running ∧ Ended U below (.threw H.size) ∧ s'.WarmedH U.vm ∧ s'.sameButNew ({ U with vm := s'.vm } : State) [] 1 6 ∧ ∃ ce, U.heap[H.size]? = some ce ∧ Bundle.OwnCell args s' exN H.size (.ref q) ce) (F0 m pc ls []) := by
    refine W.newcK X.1 X.2.1 hown (w' _ ow_cl) (w' _ ow_ins) (w' _ ow_ini) rfl hd0 (by show 0 + 1 ≤ R.cells - k; omega) (by show 0 + 6 ≤ R.slots - n; omega) hcX rfl fun H1 kC hkC e1 z1 o1 => ?_
    refine lv_dup X.1 X.2.1 hd3 rfl ?_
    refine va_ldcS X.1 X.2.1 hown hq hd4 ?_
    intro T2 hT2 X2
    obtain ⟨U, u1, u2, u3, u4, u5, u6⟩ := X2.ctorThrowS X.1 htr (own := "LicenceTexts") (cls := exN) (names := owN) (ic := 151) hown (by decide +kernel) (by decide +kernel) Z'.atoms (fun x hx => by simp at hx) (a := H.size) hcX hkC (by rw [hT2]; exact e1) (by rw [hh']; exact Nat.le_refl _) (msg := .ref q) rfl (g := F0 m (pc + 6) ls [.ref q, .ref H.size, .ref H.size]) rfl (by rw [X.2.2.1]; exact d1.1) rfl rfl (rest := []) rfl (by rw [X.2.1]; exact hd6) (by rw [X.2.1]; exact hd9) (fun x hx => by
        have : c.exceptionTable.toList = [] := by
          have := Array.isEmpty_iff.mp hexc
          rw [this]
        rw [this] at hx
        simp at hx) (by show owN.length + 3 < R.frames; simp [owN]; omega) (by simp [JFrame.monitorRoom, Value.category, owN]; omega) hlk
    exact ⟨U, u1, u2, u3, u4, u5, u6⟩
  obtain ⟨U, u1, u2, u3, u4, u5, ce, u6, u7⟩ := Kk T hT X'
  have hs0 := same_cells u5
  rw [hh'] at hs0
  have hsz : U.heap.size = H.size + 1 := by
    have h1 : U.heap.size ≤ s'.heap.size + 1 := u5.2.2.1
    have h2 := (Array.getElem?_eq_some_iff.mp u6).1
    rw [hh'] at h1
    omega
  have hWU : s.WarmedH U.vm := State.WarmedH.trans XS.warmed (by have h9 := u4; rw [hs'] at h9; exact h9)
  refine ⟨U, u1, .threw H.size, u2, u3, ⟨H.size, ce, rfl, u6, u7.vm, ?_, ?_, ?_, ?_⟩, locs, ⟨⟨_, rfl⟩, hWU, ?_⟩, b1.2.2⟩
  · have := u7.cls
    rw [hW'.alike.findClass] at this
    exact this
  · refine ⟨by rw [hsz, a1.1], fun q x hx => ?_⟩
    have h9 := a1.2 q x hx
    have hl := h9.2.lt
    exact ⟨h9.1, (h9.2.kept (hs0 q hl)).moved hWU.alike⟩
  · rw [hsz]; exact Nat.le_trans b1.1 (Nat.le_succ _)
  · intro q hq hn2
    rw [hs0 q (Nat.lt_of_lt_of_le hq b1.1)]
    exact b1.2.1 q hq hn2
  · have h1 : T.sameButNew ({ U with vm := T.vm } : State) [] 1 6 := by
      have h2 := u5
      rw [hs'] at h2
      refine ⟨?_, h2.2⟩
      have h3 := h2.1
      rw [State.setFrames_setFrames] at h3
      exact h3
    have h2 := XS.same.trans (h1.setVm s.vm)
    rw [List.append_nil] at h2
    exact State.sameButNew.mono h2 hmc hms
end JTHROW
