/-! A CALL THAT THROWS, AND ITS CATCH -/
theorem ow_cast : Cond.castable exN exN ∈ owA := by decide +kernel
/-! The search in a table of one entry, whose class may not have been resolved yet -/
section COLD
variable {e : Env} {s : State} {f : JFrame} {a : Addr} {meth : Method} {code : Code} {x0 : ExceptionTableEntry} {cT : ClassId} {cell : Cell}
theorem one_find (hm : s.vm.method? f.method = some meth) (hc : meth.code = some code) (ht : code.exceptionTable.toList = [x0]) (hx : covers x0 f.pc = true) (h0 : x0.catchType ≠ 0) (hl : s.vm.ClassLinks e.platform f.method.cls x0.catchType cT) (hcell : s.heap[a]? = some cell) (hobj : cell.vm.isStatics = false) (hcl : ∃ k, s.vm.classes[cT]? = some k) (hfit : s.vm.assignable cell.cls cT = true) (Q : Handler → Pre) (E : CtlPost) (d : Bool) (acts : List Action) : wp (findHandler f a) Q E e d acts s ↔ Q (.found x0.handlerPc) d acts (s.setVm (s.vm.noted f.method.cls x0.catchType (.cls cT))) := by
  have al : s.vm.Alike (s.vm.noted f.method.cls x0.catchType (.cls cT)) := (Vm.Alike.refl s.vm).noted _ _ _
  obtain ⟨k1, hk1⟩ := Vm.classAt_of_assignable hfit hcl
  obtain ⟨k2, hk2⟩ := hcl
  obtain ⟨k1', g1, -⟩ := al.2.2 _ _ hk1
  obtain ⟨k2', g2, -⟩ := al.2.2 _ _ hk2
  have g3 : (s.vm.noted f.method.cls x0.catchType (.cls cT)).assignable cell.cls cT = true := by rw [al.assignable]; exact hfit
  have g4 := VmData.ne_statics_of hobj
  obtain ⟨r1, r2⟩ := (resolveClass_links e.toSetting hl).op (op := VmOp.resolveClass f.method.cls x0.catchType) rfl
  rw [W.findHandler_eq hm hc, ht]
  simp only [covers] at hx
  simp [findHandler.go, hx, h0, r1, r2, hcell, g4, g1, g2, g3, VmOp.dirties, VmOp.acts]
theorem one_step {r : List Frame} {pc : Nat} {vm' : Vm} (hf : ∀ (Q : Handler → Pre) (E : CtlPost) (d : Bool) (acts : List Action), wp (findHandler f a) Q E e d acts s ↔ Q (.found pc) d acts (s.setVm vm')) : (stepThrowing e s a (.java f :: r)).1 = (s.setVm vm').setFrames (.java { f with pc := pc, stack := [.ref a] } :: r) := by
  simp only [stepThrowing, searchFrame, vmDo]
  generalize hr : Sem.go _ e false [] s = res
  obtain ⟨as, rfl, -⟩ := Sem.eq_ok_of hr (a := Handler.found pc) (s' := s.setVm vm') (acts' := []) (by simp [hf _ _ _ _])
  rfl
end COLD
/-- into the handler -/
theorem cold_catch {p : Program} {l : Launch} {e : Env} {R : Room} {s : State} {m : MethodId} {args : Array Value} {below : List Frame} {meth : Method} {c : Code} {T : State} {locs : List Loc} {k n : Nat} (X : Stand p l e R s m args below meth c T locs k n) {a : Addr} {g : JFrame} (hg : g.method = m) {own name : String} (hown : s.vm.findClass own = some m.cls) {x0 : ExceptionTableEntry} (ht : c.exceptionTable.toList = [x0]) (hx : covers x0 g.pc = true) (h0 : x0.catchType ≠ 0) (hlink : (Cond.classLink own x0.catchType name).before args s = true) {cT : ClassId} {cell : Cell} (hcT : s.vm.findClass name = some cT) (hcell : T.heap[a]? = some cell) (hobj : cell.vm.isStatics = false) (hfit : s.vm.assignable cell.cls cT = true) :
    ∃ vm', Stand p l e R s m args below meth c (T.setVm vm') locs k n ∧ ∀ target, Steps p.tables e below ((T.setVm vm').setTop { g with pc := x0.handlerPc, stack := [.ref a] }) target → Steps p.tables e below ((T.setTop g).pushFrame (.throwing a)) target := by
  have hpl : e.platform.magicAccessors = ({} : Platform).magicAccessors := by rw [X.admits.platform]
  obtain ⟨c2, hc2, hcl⟩ := Cond.classLink_spec hown hlink e.platform hpl
  cases hcT.symm.trans hc2
  obtain ⟨dk, _, _, kt, hd, _, _, _, _, hkt, _, hopen⟩ := hcl.here
  have al := X.warmed.alike
  have hW : s.WarmedH (T.vm.noted m.cls x0.catchType (.cls cT)) := X.warmed.noted hd hopen (State.rightAt_cls hcl)
  obtain ⟨kt', hkt', -⟩ := al.2.2 _ _ hkt
  refine ⟨T.vm.noted m.cls x0.catchType (.cls cT), X.noted hW, fun target hrest => ?_⟩
  subst hg
  obtain ⟨hgo, hwn⟩ := X.here.throwing a
  refine Steps.head hgo hwn ?_
  have hfind := one_find (e := e) (s := (T.setTop g).pushFrame (.throwing a)) (f := g) (a := a) (meth := meth) (code := c) (x0 := x0) (cT := cT) (cell := cell) X.method' X.code ht hx h0 (X.warmed.classLinks hcl) hcell hobj ⟨kt', hkt'⟩ (by
    show T.vm.assignable cell.cls cT = true
    rw [al.assignable]; exact hfit)
  rw [stepThread_throwing (frames_entered X.here.top _), one_step hfind]
  obtain ⟨g0, hg0⟩ := X.frames_eq
  have hr' : (T.setVm (T.vm.noted g.method.cls x0.catchType (.cls cT))).frames = .java g0 :: below := hg0
  rw [State.setTop_of_frames _ hr'] at hrest
  have e1 : T.frames.tail = below := X.tail
  rw [e1]
  have e2 : (((T.setTop g).pushFrame (.throwing a)).setVm (T.vm.noted g.method.cls x0.catchType (.cls cT))).setFrames (.java { g with pc := x0.handlerPc, stack := [.ref a] } :: below) = (T.setVm (T.vm.noted g.method.cls x0.catchType (.cls cT))).setFrames (.java { g with pc := x0.handlerPc, stack := [.ref a] } :: below) := by
    rw [State.pushFrame, State.setTop_of_frames _ hg0]
    have h1 : ∀ (u : State) (F : List Frame) (v : Vm), (u.setFrames F).setVm v = (u.setVm v).setFrames F := fun _ _ _ => rfl
    rw [h1, h1, State.setFrames_setFrames, State.setFrames_setFrames]
  have e3 : ((T.setTop g).pushFrame (.throwing a)).vm = T.vm := rfl
  rw [e3, e2]
  exact hrest
section CATCH
variable {p : Program} {l : Launch} {e : Env} {R : Room} {s : State} {m : MethodId} {args : Array Value} {below : List Frame} {meth : Method} {c : Code} {cc : ByteArray} {nL : Nat} {own : String} {D : va_G} {K : (Nat → Nat) × (Nat → Nat)} {A : Nat → Prop} {h : hH} {lv : List (Nat × Value)} {k n pc : Nat} {Q : State → Prop}
theorem J_callVT (X : hCx hG p m c cc nL s args T0 own D cls0 K A) (Z : tH A s s.heap) {y : MethodName} {by2 : ByteArray} {mL : Nat} {ret : Option FieldType} {rm : Room} {mc ms nA : Nat} {As rest : List Value} {g g2 : hH} {a : Nat} {idx : Nat} (hs : Sub g h) {C : String} {T : u_T} {N ci : Nat} (hc : cls0[ci]? = some (C, T, N)) {u : Unit} (hi : hIs g a ci = some u)
    (hM : MetFree l y (headSpec (.code y by2 mL ret :: T0) rm) (fun a' U => hPc hG D cls0 K (.ref a :: As) g a' U ∧ tH (hF g) U U.heap) (fun _ _ _ _ _ => True) (fun a' st o t => hQT D cls0 g g2 a' st o t ∧ ∃ L, thE st o t L mc ms ∧ ∀ q ∈ L, hF g q.base))
    (cw : CallW R s args own C idx y by2 mL ret (.code y by2 mL ret :: T0) rm mc ms nA) (hnf : NotFace s y) {x0 : ExceptionTableEntry} (hsplit : c.exceptionTable.toList = [x0]) (hx : covers x0 pc = true) (h0 : x0.catchType ≠ 0) (hlink : (Cond.classLink own x0.catchType exN).before args s = true)
    (hd : decode cc pc = .ok (.invokevirtual idx, 3)) (hA : As.length = nA) {st0 : List Value} (hs0 : (As.reverse ++ .ref a :: rest) = st0) (hW : (rest.map fun v => v.category).sum ≤ 8) (hk : k + mc ≤ R.cells) (hn : n + ms ≤ R.slots)
    (kk : ∀ h2 x, Jn h g (g2.1 + 1, g2.2) h2 → g.1 ≤ g2.1 + 1 → J p l e R s m args below meth c nL D cls0 A h2 lv (k + mc) (n + ms) Q x0.handlerPc [.ref x]) : J p l e R s m args below meth c nL D cls0 A h lv k n Q pc st0 := by
  subst hs0
  intro H locs ls a1 b1 d1 T1 hT XS
  have a1g := a1.sub hs
  have hfr := a1g.free X.2.2.2.2.2.2 b1.1
  obtain ⟨⟨hrc, hrs, hfrm, hlo, hws, hcin, hcode, hini, hy, hlen, hl⟩, hin, hse⟩ := cw
  obtain ⟨cellB, hcB, hoB, hclB⟩ := h_recv X hc hi a1g
  have Zg : ∀ vm₁, s.WarmedH vm₁ → tH (hF g) (T1.setVm vm₁) (T1.setVm vm₁).heap := by
    intro vm₁ hW₁
    show tH (hF g) (T1.setVm vm₁) T1.heap
    rw [hT]
    exact Z.to hW₁ hfr b1.2.1
  obtain ⟨mk, methM, hnamed, hmethM, hstM, habM⟩ := Cond.instanceMethod_spec hin
  obtain ⟨methM', cM, hmethM', hcM, -, hlM, -, -, -, hsigM⟩ := Cond.code_spec hnamed hcode
  cases hmethM.symm.trans hmethM'
  obtain ⟨c2, r2, m2, s1, s2, s3, s4, kP, hkP, hkPi⟩ := Cond.selects_spec hse
  cases hclB.symm.trans s1
  cases (State.methodFound?_of_named hnamed hy).symm.trans s2
  cases hnamed.symm.trans s3
  have hselP : selectMethod e.platform s.vm cellB.cls mk = .method mk := by rw [Launch.admits_selectMethod XS.admits]; exact s4
  obtain ⟨vm₁, X₁, hstep₁⟩ := XS.invokevirtual X.1 X.2.2.2.1 hl hnamed hmethM hstM hkP hkPi hy (a := a) (cell := cellB) (by rw [hT]; exact hcB)
    (fun z h9 => by rw [h9] at hoB; cases hoB) hselP hmethM habM hkP hkPi (g := F0 m pc ls (As.reverse ++ .ref a :: rest)) rfl (argsL := As) (rest := rest) (hA.trans (hlen _ hsigM)) rfl (by rw [X.2.1]; exact hd)
  have hW₁ := X₁.warmed
  obtain ⟨g0, hg0⟩ : ∃ g0 : JFrame, g0 = F0 m pc ls rest := ⟨_, rfl⟩
  obtain ⟨U, hU⟩ : ∃ U, U = T1.setVm vm₁ := ⟨_, rfl⟩
  have XU : Stand p l e R s m args below meth c U locs k n := by rw [hU]; exact X₁
  have hnU := XU.named hnamed
  have hAt : At U g0.method c below := by rw [hg0]; exact XU.here
  obtain ⟨kY, hkY, -⟩ := className_of_methodNamed hnU
  have hiniU : (Cond.initialized y.cls).before (Value.ref a :: As).toArray U = true := word_at XU.warmed (Or.inl (by first | rfl | simp [Cond.onTables, Cond.keeps, Cond.steady])) hini
  have hinitY : kY.init = .initialized := Cond.initialized_spec (findClass_of_methodNamed hnU) hkY hiniU
  have hcodeU := hws _ hcin (Value.ref a :: As).toArray U XU.warmed
  obtain ⟨methY, cY, hmY, hcY, -, hlY, -, -, -, -⟩ := Cond.code_spec hnU hcodeU
  have hdg : decode c.code g0.pc = .ok (.invokevirtual idx, 3) := by rw [hg0, X.2.1]; exact hd
  have hsz : g0.locals.size = c.maxLocals := by rw [hg0]; exact d1.1.trans X.2.2.1.symm
  have hrest8 : 2 * g0.monitorRoom + (g0.stack.map fun v => v.category).sum ≤ 8 := by rw [hg0]; exact lv_room hW
  have happ : (headSpec (.code y by2 mL ret :: T0) rm).appliesLoose y e.platform (U.calling g0 mk (Value.ref a :: As).toArray) = true :=
    Spec.appliesLoose_calling (g := g0) hAt hdg hnU hkY hinitY (XU.room_calling (g := g0) (R' := rm) hsz hmY hcY hfrm (by rw [hlY]; omega) (by rw [hrc]; exact hk) (by rw [hrs]; exact hn)) (atoms_intro fun w hw => hws w hw _ _ XU.warmed)
  obtain ⟨mid, hmid⟩ := hAt.above
  have hfrU : (U.setTop g0).frames = (.java g0 :: mid) ++ below := by rw [State.frames_setTop' g0 hAt.top, hmid]; rfl
  have hPU : hPc hG D cls0 K (.ref a :: As) g (Value.ref a :: As).toArray U ∧ tH (hF g) U U.heap := by
    rw [hU]
    exact ⟨hPc_at X a1g b1 (T1.setVm vm₁) hT hW₁, Zg vm₁ hW₁⟩
  obtain ⟨oc, t, hsteps, -, hend, hq, L, ⟨⟨v, rfl⟩, hWt, hsame⟩, hL⟩ := Jvm.Free.Steps.callFree hM p XU.admits XU.cas XU.clock (acts := []) hfrU happ ⟨hPc_blind _ _ _ _ hPU.1, hPU.2.same rfl⟩ trivial
  rw [State.frames_setTop' g0 hAt.top, XU.tail] at hend
  obtain ⟨U', XB, hWU', -, et⟩ := XU.outOfThrown (g := g0) (by rw [hg0]) (mk := mk) (a := (Value.ref a :: As).toArray) (t := t) (x := v) hend hWt hsame
  have e1 : U'.heap = t.heap := by rw [et]; rfl
  have e2 : U'.vm = t.vm := by rw [et]; rfl
  obtain ⟨x, ce, q1, q2, q3, q4, q5, q6, q7⟩ := hq
  cases q1
  have hh0 : ((U.setTop g0).pushFrame (.invoking mk (Value.ref a :: As).toArray)).heap = H := by rw [hU]; exact hT
  have hcT : s.vm.findClass exN = some ce.cls := by
    have h9 : (T1.setVm vm₁).vm.findClass exN = some ce.cls := by rw [hU] at q4; exact q4
    rw [hW₁.alike.findClass] at h9
    exact h9
  have hfit : s.vm.assignable ce.cls ce.cls = true := by
    obtain ⟨c3, c4, w1, w2, w3⟩ := Cond.castable_spec (Z.2.2.1 _ ow_cast rfl)
    cases hcT.symm.trans w1
    cases hcT.symm.trans w2
    exact w3
  obtain ⟨vm', XV, stV⟩ := cold_catch XB (a := v) (g := g0) (by rw [hg0]) X.2.2.2.1 hsplit (by rw [hg0]; exact hx) h0 hlink hcT (cell := ce) (by rw [e1]; exact q2) (by rw [q3]; rfl) hfit
  have hal : s.vm.Alike t.vm := by rw [← e2]; exact XB.warmed.alike
  rw [hh0] at q6 q7
  have hw2' : hw D cls0 (hF g) s U'.heap (g2.1 + 1, g2.2) := by rw [e1]; exact q5.moved hal.symm
  have hk' : ∀ q : Nat, q < H.size → ¬ hF g q → U'.heap[q]? = H[q]? := fun q z1 z2 => by rw [e1]; exact q7 q z1 z2
  have hw3 := joint_hw (t := t) a1 hs hfr hw2' hk'
  have hS2 : va_S A s.heap U'.heap (locs ++ L) := by
    refine ⟨Nat.le_trans b1.1 (by rw [e1]; exact q6), fun q z1 z2 => ?_, fun q hq => ?_⟩
    · rw [hk' q (Nat.lt_of_lt_of_le z1 b1.1) (fun z => z2 (hfr q z))]
      exact b1.2.1 q z1 z2
    · rcases List.mem_append.mp hq with z | z
      · exact b1.2.2 q z
      · exact hfr _ (hL q z)
  obtain ⟨t2, a2, b2⟩ := kk (hJ h g (g2.1 + 1, g2.2)) v (hJ_jn a1 hs hw2') (by have := hw2'.1; have := a1g.1; rw [e1] at *; show g.1 ≤ (g2.1 + 1, g2.2).1; rw [← a1g.1, ← q5.1]; exact q6) U'.heap (locs ++ L) ls hw3 hS2 d1 (U'.setVm vm') rfl XV
  refine ⟨t2, ?_, b2⟩
  refine hstep₁ _ fun acts => ?_
  rw [doInvoke_state]
  rw [hU, hg0] at hsteps
  refine hsteps.trans ?_
  rw [et]
  rw [hg0] at stV ⊢
  exact stV t2 a2
end CATCH
