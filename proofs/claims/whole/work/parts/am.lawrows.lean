/-! ROWS OF THE LAW -/
section LAWROWS
variable {p : Program} {l : Launch} {e : Env} {R : Room} {s : State} {m : MethodId} {args : Array Value} {below : List Frame} {meth : Method} {c : Code} {cc : ByteArray} {nL : Nat} {own : String} {D : va_G} {K : (Nat → Nat) × (Nat → Nat)} {A : Nat → Prop} {h : hH} {lv : List (Nat × Value)} {k n pc : Nat} {Q : State → Prop} {st : List Value}
theorem J_slen (X : hCx hG p m c cc nL s args T0 own D cls0 K A) {b L : Nat} {xs : Nat → Int32} (V : va_X b L xs s s.heap) (hbl : b < s.heap.size) (hbA : ¬ A b) (hd : decode cc pc = .ok (.arraylength, 1)) (kk : J p l e R s m args below meth c nL D cls0 A h lv k n Q (pc + 1) (.int (nI L) :: st)) : J p l e R s m args below meth c nL D cls0 A h lv k n Q pc (.ref b :: st) := fun H locs ls a1 b1 d1 => va_slen X.1 X.2.1 V hbl hbA b1 hd (kk H locs ls a1 b1 d1)
theorem J_sld (X : hCx hG p m c cc nL s args T0 own D cls0 K A) {b L : Nat} {xs : Nat → Int32} (V : va_X b L xs s s.heap) (hbl : b < s.heap.size) (hbA : ¬ A b) (hL : L ≤ 2560) {i : Nat} (hi : i < L) (hd : decode cc pc = .ok (.iaload, 1)) (kk : J p l e R s m args below meth c nL D cls0 A h lv k n Q (pc + 1) (.int (xs i) :: st)) : J p l e R s m args below meth c nL D cls0 A h lv k n Q pc (.int (nI i) :: .ref b :: st) := by
  intro H locs ls a1 b1 d1
  refine va_sld X.1 X.2.1 V hbl hbA b1 (vp_in_nI hi (by omega)) hd ?_
  rw [nI_clamp (by omega)]
  exact kk H locs ls a1 b1 d1
/-- an argument: script[i + k] -/
theorem J_arg (X : hCx hG p m c cc nL s args T0 own D cls0 K A) {b L : Nat} {xs : Nat → Int32} (V : va_X b L xs s s.heap) (hbl : b < s.heap.size) (hbA : ¬ A b) (hL : L ≤ 2560) {I : Nat} (j : Nat) (hj : Int32.ofInt (j : Int) = nI j) (hI : I + j < L) (q0 q4 : Nat) (h0 : lv[q0]? = some (0, .ref b)) (h4 : lv[q4]? = some (4, .int (nI I))) (d0 : decode cc pc = .ok (.aload_n 0, 1)) (d1 : decode cc (pc + 1) = .ok (.iload 4, 2)) (d3 : decode cc (pc + 3) = .ok (.iconst (j : Int), 1)) (d4 : decode cc (pc + 4) = .ok (.iadd, 1)) (d5 : decode cc (pc + 5) = .ok (.iaload, 1)) (kk : J p l e R s m args below meth c nL D cls0 A h lv k n Q (pc + 6) (.int (xs (I + j)) :: st)) : J p l e R s m args below meth c nL D cls0 A h lv k n Q pc st := by
  refine J_aload_n X q0 d0 h0 ?_
  refine J_iload (pc := pc + 1) X q4 d1 h4 ?_
  refine J_iconst (pc := pc + 3) (v := nI j) X d3 hj ?_
  refine J_iadd (pc := pc + 4) X d4 ?_
  rw [nI_add]
  exact J_sld (pc := pc + 5) X V hbl hbA hL hI d5 kk
theorem callSW {T : State} {locs : List Loc} {cells slots : Nat} (X : Stand p l e R s m args below meth c T locs cells slots) (hexec : p.tables.exec = Jvm.exec) {own : String} {index : Nat} {y : MethodName} {bytes : ByteArray} {maxL : Nat} {ret : Option FieldType} {hh : List (Nat × Nat × Nat × Nat)}
    (hown : s.vm.findClass own = some m.cls) (hlink : (Cond.methodLink own index y).before args s = true) (hstat : (Cond.static y).before args s = true) (hinit : (Cond.initialized y.cls).before args s = true)
    (hcode : (Cond.codeWith y bytes maxL ret hh).before args s = true) (hy : y.cls ≠ "java/lang/invoke/MethodHandle" ∧ y.cls ≠ "java/lang/invoke/VarHandle")
    {W : Nat} {Pre : Pt → Array Value → Prop} {Post : Pt → Array Value → Option Value → Pt → Prop} (hK : Back l R p e below s args y 3 W Pre Post)
    {g : JFrame} (hg : g.method = m) (hsize : g.locals.size = c.maxLocals) {argsL rest : List Value} (hlen : ∀ sig, parseMethodDescriptor y.desc = some sig → argsL.length = sig.parameters.length)
    (hstack : g.stack = argsL.reverse ++ rest) (hW : 2 * g.monitorRoom + (rest.map fun v => v.category).sum ≤ W) (hdg : decode c.code g.pc = .ok (.invokestatic index, 3))
    (hpre : ∀ vm₁, s.WarmedH vm₁ → Pre ⟨T.setVm vm₁, locs, cells, slots⟩ argsL.toArray) :
    ∃ (v : Option Value) (vm₁ : Vm) (B : Pt), s.WarmedH vm₁ ∧ Stand p l e R s m args below meth c B.U B.locs B.cells B.slots ∧ Post ⟨T.setVm vm₁, locs, cells, slots⟩ argsL.toArray v B ∧
      ∀ target, Steps p.tables e below (B.U.setTop { g with pc := g.pc + 3, stack := v.toList ++ rest }) target → Steps p.tables e below (T.setTop g) target := by
  obtain ⟨mk, methM, cM, hnamed, hmethM, -, -, -, -, -, -, hsigM⟩ := Cond.codeWith_spec hcode
  have hstatic : methM.isStatic = true := Cond.static_spec hnamed hmethM hstat
  obtain ⟨kP, hkP, -⟩ := className_of_methodNamed hnamed
  have hinitP : kP.init = .initialized := Cond.initialized_spec (findClass_of_methodNamed hnamed) hkP hinit
  obtain ⟨vm₁, X₁, step₁⟩ := X.invokestatic hexec hown hlink hnamed hmethM hstatic hkP hinitP hy (g := g) hg (argsL := argsL) (rest := rest) (hlen _ hsigM) hstack hdg
  obtain ⟨v, B, X', hpost, hsteps⟩ := hK m meth c ⟨T.setVm vm₁, locs, cells, slots⟩ { g with stack := rest } (.invokestatic index) mk argsL.toArray X₁ hg hsize hdg hW (X₁.named hnamed) (hpre vm₁ X₁.warmed)
  exact ⟨v, vm₁, B, X₁.warmed, X', hpost, fun target h => step₁ _ fun acts => by rw [doInvoke_state]; exact hsteps.trans h⟩
/-- a static call of a method with handlers, on a part of the heap -/
theorem J_callSWG (X : hCx hG p m c cc nL s args T0 own D cls0 K A) (Z : tH A s s.heap) {y : MethodName} {by2 : ByteArray} {mL : Nat} {ret : Option FieldType} {hh : List (Nat × Nat × Nat × Nat)} {rm : Room} {mc ms nA : Nat} {As rest : List Value} {o : Option Value} {g g2 : hH} {idx : Nat} (hs : Sub g h) (hM : Met l y (.codeWith y by2 mL ret hh :: T0) rm (hPt D K As g) (hQ D cls0 g o g2) mc ms (hF g))
    (w1 : Cond.methodLink own idx y ∈ T0) (w2 : Cond.static y ∈ T0) (w3 : Cond.initialized y.cls ∈ T0) (w4 : Cond.codeWith y by2 mL ret hh ∈ T0) (hrm : rm.cells = mc ∧ rm.slots = ms) (hy : y.cls ≠ "java/lang/invoke/MethodHandle" ∧ y.cls ≠ "java/lang/invoke/VarHandle" ∧ (parseMethodDescriptor y.desc).map (fun d => d.parameters.length) = some nA) (hR : rm.frames + 1 ≤ R.frames ∧ 8 + (mL + 11) + rm.locals ≤ R.locals)
    (hd : decode cc pc = .ok (.invokestatic idx, 3)) (hA : As.length = nA) {st0 : List Value} (hs0 : (As.reverse ++ rest) = st0) (hW : (rest.map fun v => v.category).sum ≤ 8) (hk : k + mc ≤ R.cells) (hn : n + ms ≤ R.slots) (kk : ∀ h2, Jn h g g2 h2 → g.1 ≤ g2.1 → J p l e R s m args below meth c nL D cls0 A h2 lv (k + mc) (n + ms) Q (pc + 3) (o.toList ++ rest)) : J p l e R s m args below meth c nL D cls0 A h lv k n Q pc st0 := by
  subst hs0
  refine J_callG (a := As.toArray) hs (fun H locs ls a1 b1 d1 => ?_) X.2.2.2.2.2.2 kk
  have hws : ∀ w ∈ (.codeWith y by2 mL ret hh :: T0 : List Cond), ∀ (a' : Array Value) (U : State), s.WarmedH U.vm → w.before a' U = true := by
    intro w hw a' U hWU
    have hw2 : w ∈ T0 := by
      rcases List.mem_cons.mp hw with rfl | hw
      · exact w4
      · exact hw
    exact word_at hWU (T0_good hw2).2 (X.2.2.2.2.1 w hw2)
  have hK : Back l R p e below s args y 3 8 (PreOf R mc ms (hPt D K As g)) (PostOf (hQ D cls0 g o g2) mc ms (hF g)) := va_backW (hh := hh) (bytes := by2) (maxL := mL) (ret := ret) hM hPt_blind hrm.1 hrm.2 hR.1 hR.2 hws List.mem_cons_self (fun a' U hWU => word_at hWU (T0_good w3).2 (X.2.2.2.2.1 _ w3))
  intro T hT XS
  have hfr := a1.free X.2.2.2.2.2.2 b1.1
  obtain ⟨v, vm₁, ⟨U', l2, c2, s2⟩, hW₁, X', ⟨g', mk, t, L, e1, e2, hq, h1, hL, h2, h3⟩, step⟩ := callSW XS X.1 (bytes := by2) (maxL := mL) (ret := ret) (hh := hh) X.2.2.2.1 (X.2.2.2.2.1 _ w1) (X.2.2.2.2.1 _ w2) (X.2.2.2.2.1 _ w3) (X.2.2.2.2.1 _ w4) ⟨hy.1, hy.2.1⟩ hK (g := F0 m pc ls (As.reverse ++ rest)) rfl (d1.1.trans X.2.2.1.symm) (argsL := As) (rest := rest) (fun sig hsg => by
      have h9 := hy.2.2
      rw [hsg] at h9
      exact hA.trans (Option.some.inj h9).symm) rfl (lv_room hW) (by rw [X.2.1]; exact hd)
    (fun vm₁ hW₁ => ⟨hk, hn, hPc_at X a1 b1 (T.setVm vm₁) hT hW₁, by
      show tH (hF g) (T.setVm vm₁) T.heap
      rw [hT]
      exact Z.to hW₁ hfr b1.2.1⟩)
  dsimp only [Pt.U, Pt.locs, Pt.cells, Pt.slots] at X' e1 e2 h1 h2 h3 step
  subst h1; subst h2; subst h3
  exact ⟨v, (T.setVm vm₁).calling g' mk As.toArray, t, U', L, hT, X', hL, e1, e2, hq, step⟩
end LAWROWS
set_option maxRecDepth 100000 in
theorem k_Ls : [Cond.methodLink "LicenceTextsLaw" 66 y_Lw_table, .static y_Lw_table, .initialized "LicenceTextsLaw", .codeWith y_Lw_table method_3_code 6 (some .int) hdl].all (fun w => decide (w ∈ lw_tbl) && goodWord w) = true := by decide +kernel
