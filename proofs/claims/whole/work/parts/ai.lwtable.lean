/-! THE LAW's OWN table: it catches what LicenceTexts.table throws -/
abbrev y_Lw_table : MethodName := ⟨"LicenceTextsLaw", "table", "(LLicenceTexts;III[J)I"⟩
abbrev hdl : List (Nat × Nat × Nat × Nat) := [(0, 12, 15, 13)]
theorem d_Lt_0 : decode method_3_code 0 = .ok (.aload 4, 2) := by decide +kernel
theorem d_Lt_2 : decode method_3_code 2 = .ok (.iconst 0, 1) := by decide +kernel
theorem d_Lt_3 : decode method_3_code 3 = .ok (.aload_n 0, 1) := by decide +kernel
theorem d_Lt_4 : decode method_3_code 4 = .ok (.iload_n 1, 1) := by decide +kernel
theorem d_Lt_5 : decode method_3_code 5 = .ok (.iload_n 2, 1) := by decide +kernel
theorem d_Lt_6 : decode method_3_code 6 = .ok (.iload_n 3, 1) := by decide +kernel
theorem d_Lt_7 : decode method_3_code 7 = .ok (.invokevirtual 7, 3) := by decide +kernel
theorem d_Lt_10 : decode method_3_code 10 = .ok (.i2l, 1) := by decide +kernel
theorem d_Lt_11 : decode method_3_code 11 = .ok (.lastore, 1) := by decide +kernel
theorem d_Lt_12 : decode method_3_code 12 = .ok (.goto 7, 3) := by decide +kernel
theorem d_Lt_15 : decode method_3_code 15 = .ok (.astore 5, 2) := by decide +kernel
theorem d_Lt_17 : decode method_3_code 17 = .ok (.iconst 1, 1) := by decide +kernel
theorem d_Lt_18 : decode method_3_code 18 = .ok (.ireturn, 1) := by decide +kernel
theorem d_Lt_19 : decode method_3_code 19 = .ok (.iconst 0, 1) := by decide +kernel
theorem d_Lt_20 : decode method_3_code 20 = .ok (.ireturn, 1) := by decide +kernel
set_option maxRecDepth 100000 in
theorem k_Lt : [Cond.methodLink "LicenceTextsLaw" 7 y_LT_table, .instanceMethod y_LT_table, .selects "LicenceTexts" y_LT_table y_LT_table, .initialized "LicenceTexts", .code y_LT_table prog_1_method_12_code 6 (some .int), .classLink "LicenceTextsLaw" 13 exN, .instantiable "LicenceTexts" 10].all (fun w => decide (w ∈ lw_tbl) && goodWord w) = true := by decide +kernel
theorem k_of {l : List Cond} (h : l.all (fun w => decide (w ∈ lw_tbl) && goodWord w) = true) (i : Nat) {w : Cond} (hi : l[i]? = some w) : w ∈ T0 := by
  have := List.all_eq_true.mp h w (List.mem_of_getElem? hi)
  simp only [Bool.and_eq_true, decide_eq_true_eq] at this
  exact List.mem_filter.mpr this
theorem Jn.eq {h g g2 h2 : hH} (J : Jn h g g2 h2) : h2 = hJ h g g2 := by
  obtain ⟨j1, j2, j3, j4⟩ := J
  apply Prod.ext
  · exact j1
  · funext q
    simp only [hJ]
    cases h3 : g2.2 q with
    | some x => exact j2 q x h3
    | none =>
      simp only
      cases h4 : g.2 q with
      | some y =>
        simp only
        cases h5 : h2.2 q with
        | none => rfl
        | some z =>
          rcases j4 q z h5 with h6 | ⟨-, h6⟩
          · rw [h3] at h6; cases h6
          · rw [h4] at h6; cases h6
      | none =>
        simp only
        cases h5 : h.2 q with
        | some z => exact (j3 q z h5 h4).1
        | none =>
          cases h6 : h2.2 q with
          | none => rfl
          | some z =>
            rcases j4 q z h6 with h7 | ⟨h7, -⟩
            · rw [h3] at h7; cases h7
            · rw [h5] at h7; cases h7
abbrev rm_Lw_table : Room := { frames := 7, cells := 1, slots := 6, locals := 121 }
/-- what the law's table asks of a state -/
def hPt (D : va_G) (K : (Nat → Nat) × (Nat → Nat)) (av : List Value) (h : hH) : Array Value → State → Prop := fun a U => hPc hG D cls0 K av h a U ∧ tH (hF h) U U.heap
theorem hPt_blind {D : va_G} {K : (Nat → Nat) × (Nat → Nat)} {av : List Value} {h : hH} : FrameBlind (hPt D K av h) := fun a U g mk q => ⟨hPc_blind a U g mk q.1, q.2.same rfl⟩
/-- a contract of a method with handlers, out of a walk -/
theorem J_metW {l : Launch} {y : MethodName} {cc : ByteArray} {mL : Nat} {ret : Option FieldType} {hh : List (Nat × Nat × Nat × Nat)} {rm : Room} {D : va_G} {K : (Nat → Nat) × (Nat → Nat)} {av : List Value} {h h2 : hH} {o : Option Value} {mc ms : Nat} (lv : List (Nat × Value)) (hy : plainName y.cls = true) (hlen : (lg_sl av).length ≤ mL) (hlv : lv_args 0 av = lv)
    (body : ∀ (p : Program) (e : Env) (s : State) (m : MethodId) (below : List Frame) (meth : Method) (c : Code), hCx hG p m c cc mL s av.toArray T0 y.cls D cls0 K (hF h) → tH (hF h) s s.heap → meth.sig.returnType = ret → meth.locks = false → c.exceptionTable.toList.map (fun x => (x.startPc, x.endPc, x.handlerPc, x.catchType)) = hh → J p l e rm s m av.toArray below meth c mL D cls0 (hF h) h lv 0 0 (MQ below (hQ D cls0 h o h2) av.toArray s mc ms (hF h)) 0 []) :
    Met l y (.codeWith y cc mL ret hh :: T0) rm (hPt D K av h) (hQ D cls0 h o h2) mc ms (hF h) := by
  subst hlv
  refine va_MetW (cc := cc) (maxL := mL) (ret := ret) (hh := hh) hy rfl ?_
  intro p e s m args below meth c s₁ Bd hml hv
  obtain ⟨⟨rfl, hw0, hs0⟩, hZ⟩ := hv
  have hts := atoms_spec (ws := .codeWith y cc mL ret hh :: T0) Bd.pre
  obtain ⟨m9, meth9, c9, hn9, hm9, hc9, -, -, hx9, -⟩ := Cond.codeWith_spec (hts _ List.mem_cons_self)
  cases Bd.named.symm.trans hn9
  cases Bd.method.symm.trans hm9
  cases (Stand.of_body Bd).code.symm.trans hc9
  have hl := lv_entry av (n := mL) hlen
  rw [lg_entry_eq]
  exact body p e s m below meth c ⟨Bd.exec, Bd.bytes, hml, findClass_of_methodNamed Bd.named, fun w hw9 => hts w (List.mem_cons_of_mem _ hw9), hs0, fun q hq => Or.inl (by rw [← hw0.1]; exact hq)⟩ hZ Bd.returns Bd.notSynchronized hx9 s.heap [] _ hw0.self va_S.rf hl
section LWT
variable {l : Launch} {D : va_G} {K : (Nat → Nat) × (Nat → Nat)} {F : Nat} {h g g2 : hH} {x0 o : Nat} {x1 x2 x3 r : Int32} {f : Nat → Int64}
theorem hStL_1 {h : hH} {o : Nat} {f : Nat → Int64} (ho : h.2 o = some (.inr (.long, 1, .inr (.inl f)))) (x : Int64) : hStL h o 0 x = some (hSet h o (.inr (.long, 1, .inr (.inl (vp_updL f 0 x))))) := by
  have h0 : ¬ ((0 : Int32) < 0 ∨ 1 ≤ (0 : Int32).toNatClampNeg) := by decide
  simp only [hStL, hArr, ho, if_true, Option.bind_some, h0, if_false]
  rfl
set_option maxRecDepth 100000 in
set_option maxHeartbeats 4000000 in
theorem c_Lw_table_r (hs : Sub g h) (hi : hIs g x0 11 = some ()) (hN : NumAt F g x0 x1 x2 x3 r g2) (hr0 : r ≠ -1) (ho : h.2 o = some (.inr (.long, 1, .inr (.inl f)))) (hgo : g.2 o = none) : Met l y_Lw_table (.codeWith y_Lw_table method_3_code 6 (some .int) hdl :: T0) rm_Lw_table (hPt D K [.ref x0, .int x1, .int x2, .int x3, .ref o] h) (hQ D cls0 h (some (.int 0)) (hSet (hJ h g g2) o (.inr (.long, 1, .inr (.inl (vp_updL f 0 r.toInt64)))))) 1 6 (hF h) := by
  refine J_metW (lv := [(0, .ref x0), (1, .int x1), (2, .int x2), (3, .int x3), (4, .ref o)]) (by decide) (Nat.le_of_ble_eq_true rfl) rfl ?_
  intro p e s m below meth c X Z hr hlk hx
  refine J_aload (pc := 0) X 4 d_Lt_0 rfl ?_
  refine J_iconst (pc := 2) (v := 0) X d_Lt_2 (by decide) ?_
  refine J_aload_n (pc := 3) X 0 d_Lt_3 rfl ?_
  refine J_iload_n (pc := 4) X 1 d_Lt_4 rfl ?_
  refine J_iload_n (pc := 5) X 2 d_Lt_5 rfl ?_
  refine J_iload_n (pc := 6) X 3 d_Lt_6 rfl ?_
  refine J_callVG (pc := 7) (As := [.int x1, .int x2, .int x3]) (rest := [.int 0, .ref o]) (o := some (.int r)) (g2 := g2) X hs hc_LT hi (c_LT_table l D K F hi hN hr0) (cwV_of (nA := 3) X.fix (k_of k_Lt 0 rfl) (k_of k_Lt 1 rfl) (k_of k_Lt 2 rfl) (k_of k_Lt 3 rfl) (k_of k_Lt 4 rfl) ⟨rfl, rfl, rfl⟩ (by decide +kernel) ⟨Nat.le_of_ble_eq_true rfl, Nat.le_of_ble_eq_true rfl⟩) d_Lt_7 rfl rfl (Nat.le_of_ble_eq_true rfl) (Nat.le_of_ble_eq_true rfl) (Nat.le_of_ble_eq_true rfl) (fun h2 jn _ => ?_)
  have ho2 := (jn.2.2.1 o _ ho hgo).1
  rw [jn.eq] at ho2 ⊢
  refine J_i2l (pc := 10) X d_Lt_10 ?_
  refine J_last (pc := 11) X d_Lt_11 rfl (hStL_1 ho2 _) ?_
  refine J_goto (pc := 12) (tgt := 19) X d_Lt_12 (by decide) ?_
  refine J_iconst (pc := 19) (v := 0) X d_Lt_19 (by decide) ?_
  exact J_iret (pc := 20) X hr hlk (Nat.le_of_ble_eq_true rfl) (Nat.le_of_ble_eq_true rfl) d_Lt_20
set_option maxRecDepth 100000 in
set_option maxHeartbeats 4000000 in
theorem c_Lw_table_t (hfl : l.flags = flags0) (hs : Sub g h) (hi : hIs g x0 11 = some ()) (hN : NumAt F g x0 x1 x2 x3 (-1) g2) : Met l y_Lw_table (.codeWith y_Lw_table method_3_code 6 (some .int) hdl :: T0) rm_Lw_table (hPt D K [.ref x0, .int x1, .int x2, .int x3, .ref o] h) (hQ D cls0 h (some (.int 1)) (hJ h g (g2.1 + 1, g2.2))) 1 6 (hF h) := by
  refine J_metW (lv := [(0, .ref x0), (1, .int x1), (2, .int x2), (3, .int x3), (4, .ref o)]) (by decide) (Nat.le_of_ble_eq_true rfl) rfl ?_
  intro p e s m below meth c X Z hr hlk hx
  obtain ⟨y0, hy0, ey⟩ : ∃ y0, c.exceptionTable.toList = [y0] ∧ (y0.startPc, y0.endPc, y0.handlerPc, y0.catchType) = (0, 12, 15, 13) := by
    cases hq : c.exceptionTable.toList with
    | nil => rw [hq] at hx; simp at hx
    | cons y0 rs =>
      rw [hq] at hx
      cases rs with
      | nil => exact ⟨y0, rfl, by simpa using hx⟩
      | cons z zs => simp at hx
  simp only [Prod.mk.injEq] at ey
  obtain ⟨ey1, ey2, ey3, ey4⟩ := ey
  have hnf : NotFace s y_LT_table := by
    intro r0 hn0
    obtain ⟨c1, k1, hc1, hk1, -, hi1, -⟩ := Cond.instantiable_spec (X.2.2.2.2.1 _ (k_of k_Lt 6 rfl))
    have h9 : s.vm.findClass "LicenceTexts" = some r0.cls := findClass_of_methodNamed hn0
    cases hc1.symm.trans h9
    refine ⟨k1, hk1, ?_⟩
    cases hq : k1.isInterface with
    | false => rfl
    | true => rw [hq] at hi1; simp at hi1
  refine J_aload (pc := 0) X 4 d_Lt_0 rfl ?_
  refine J_iconst (pc := 2) (v := 0) X d_Lt_2 (by decide) ?_
  refine J_aload_n (pc := 3) X 0 d_Lt_3 rfl ?_
  refine J_iload_n (pc := 4) X 1 d_Lt_4 rfl ?_
  refine J_iload_n (pc := 5) X 2 d_Lt_5 rfl ?_
  refine J_iload_n (pc := 6) X 3 d_Lt_6 rfl ?_
  refine J_callVT (pc := 7) (As := [.int x1, .int x2, .int x3]) (rest := [.int 0, .ref o]) (g2 := g2) X Z hs hc_LT hi (t_LT_table l hfl D K F hi hN) (cwV_of (nA := 3) X.fix (k_of k_Lt 0 rfl) (k_of k_Lt 1 rfl) (k_of k_Lt 2 rfl) (k_of k_Lt 3 rfl) (k_of k_Lt 4 rfl) ⟨rfl, rfl, rfl⟩ (by decide +kernel) ⟨Nat.le_of_ble_eq_true rfl, Nat.le_of_ble_eq_true rfl⟩) hnf hy0 (by simp [covers, ey1, ey2]) (by rw [ey4]; decide) (by rw [ey4]; exact X.2.2.2.2.1 _ (k_of k_Lt 5 rfl)) d_Lt_7 rfl rfl (Nat.le_of_ble_eq_true rfl) (Nat.le_of_ble_eq_true rfl) (Nat.le_of_ble_eq_true rfl) (fun h2 x jn _ => ?_)
  rw [jn.eq, ey3]
  refine J_astore (pc := 15) (lv' := [(5, .ref x), (0, .ref x0), (1, .int x1), (2, .int x2), (3, .int x3), (4, .ref o)]) X d_Lt_15 (by decide) rfl ?_
  refine J_iconst (pc := 17) (v := 1) X d_Lt_17 (by decide) ?_
  exact J_iret (pc := 18) X hr hlk (Nat.le_of_ble_eq_true rfl) (Nat.le_of_ble_eq_true rfl) d_Lt_18
end LWT
