/-! LicenceTexts.table: it answers, or it throws -/
theorem d_LT_table_0 : decode prog_1_method_12_code 0 = .ok (.aload_n 0, 1) := by decide +kernel
theorem d_LT_table_1 : decode prog_1_method_12_code 1 = .ok (.iload_n 1, 1) := by decide +kernel
theorem d_LT_table_2 : decode prog_1_method_12_code 2 = .ok (.invokevirtual 133, 3) := by decide +kernel
theorem d_LT_table_5 : decode prog_1_method_12_code 5 = .ok (.astore 4, 2) := by decide +kernel
theorem d_LT_table_7 : decode prog_1_method_12_code 7 = .ok (.aload 4, 2) := by decide +kernel
theorem d_LT_table_9 : decode prog_1_method_12_code 9 = .ok (.ifnonnull 7, 3) := by decide +kernel
theorem d_LT_table_12 : decode prog_1_method_12_code 12 = .ok (.iconst (-1), 1) := by decide +kernel
theorem d_LT_table_13 : decode prog_1_method_12_code 13 = .ok (.goto 14, 3) := by decide +kernel
theorem d_LT_table_16 : decode prog_1_method_12_code 16 = .ok (.aload 4, 2) := by decide +kernel
theorem d_LT_table_18 : decode prog_1_method_12_code 18 = .ok (.getfield 137, 3) := by decide +kernel
theorem d_LT_table_21 : decode prog_1_method_12_code 21 = .ok (.iload_n 2, 1) := by decide +kernel
theorem d_LT_table_22 : decode prog_1_method_12_code 22 = .ok (.iload_n 3, 1) := by decide +kernel
theorem d_LT_table_23 : decode prog_1_method_12_code 23 = .ok (.i2l, 1) := by decide +kernel
theorem d_LT_table_24 : decode prog_1_method_12_code 24 = .ok (.invokevirtual 141, 3) := by decide +kernel
theorem d_LT_table_27 : decode prog_1_method_12_code 27 = .ok (.istore 5, 2) := by decide +kernel
theorem d_LT_table_29 : decode prog_1_method_12_code 29 = .ok (.iload 5, 2) := by decide +kernel
theorem d_LT_table_31 : decode prog_1_method_12_code 31 = .ok (.iconst (-1), 1) := by decide +kernel
theorem d_LT_table_32 : decode prog_1_method_12_code 32 = .ok (.if_icmp .ne 13, 3) := by decide +kernel
theorem d_LT_table_35 : decode prog_1_method_12_code 35 = .ok (.new 147, 3) := by decide +kernel
theorem d_LT_table_38 : decode prog_1_method_12_code 38 = .ok (.dup, 1) := by decide +kernel
theorem d_LT_table_39 : decode prog_1_method_12_code 39 = .ok (.ldc 149, 2) := by decide +kernel
theorem d_LT_table_41 : decode prog_1_method_12_code 41 = .ok (.invokespecial 151, 3) := by decide +kernel
theorem d_LT_table_44 : decode prog_1_method_12_code 44 = .ok (.athrow, 1) := by decide +kernel
theorem d_LT_table_45 : decode prog_1_method_12_code 45 = .ok (.iload 5, 2) := by decide +kernel
theorem d_LT_table_47 : decode prog_1_method_12_code 47 = .ok (.ireturn, 1) := by decide +kernel
set_option maxRecDepth 100000 in
theorem k_tab : Cond.methodLink "LicenceTexts" 141 y_Tables_numberAt ∈ T0 := List.mem_filter.mpr ⟨by decide +kernel, by decide +kernel⟩
abbrev rm_LT_table : Room := { frames := 6, cells := 1, slots := 6, locals := 96 }
/-- the number that table finds, -1 if there is none -/
def NumAt (F : Nat) (h : hH) (x0 : Nat) (x1 x2 x3 : Int32) (r : Int32) (h2 : hH) : Prop :=
  (M_LT_editionOn F h x0 x1 = some (none, h2) ∧ r = -1) ∨ ∃ a h1 v, M_LT_editionOn F h x0 x1 = some (some a, h1) ∧ hGetA h1 a 1 2 = some v ∧ hIs h1 v 8 = some () ∧ M_Tables_numberAt F h1 v x2 x3.toInt64 = some (r, h2)
set_option maxRecDepth 100000 in
set_option maxHeartbeats 4000000 in
theorem w_LT_table {p : Program} {l : Launch} {e : Env} {s : State} {m : MethodId} {args : Array Value} {below : List Frame} {meth : Method} {c : Code} {D : va_G} {K : (Nat → Nat) × (Nat → Nat)} {F : Nat} {h h2 : hH} {x0 : Nat} {x1 x2 x3 r : Int32} {Q : State → Prop} (X : hCx hG p m c prog_1_method_12_code 6 s args T0 "LicenceTexts" D cls0 K (hF h)) (hi : hIs h x0 11 = some ()) (hN : NumAt F h x0 x1 x2 x3 r h2)
    (kk : ∀ v4, J p l e rm_LT_table s m args below meth c 6 D cls0 (hF h) h2 [(5, .int r), (4, v4), (0, .ref x0), (1, .int x1), (2, .int x2), (3, .int x3)] 0 0 Q 29 []) : J p l e rm_LT_table s m args below meth c 6 D cls0 (hF h) h [(0, .ref x0), (1, .int x1), (2, .int x2), (3, .int x3)] 0 0 Q 0 [] := by
  refine J_aload_n (pc := 0) X 0 d_LT_table_0 rfl ?_
  refine J_iload_n (pc := 1) X 1 d_LT_table_1 rfl ?_
  rcases hN with ⟨hE, hr⟩ | ⟨a, h1, v, hE, hv, hiv, hT⟩
  · refine J_callV (pc := 2) (As := [.int x1]) (rest := []) (o := (some (va_rf none))) (h2 := h2) X rfl hc_LT hi (c_LT_editionOn l D K F hE) (cwV_of (nA := 1) X.fix k_442 k_444 k_445 k_401 k_443 ⟨rfl, rfl, rfl⟩ (by decide +kernel) ⟨Nat.le_of_ble_eq_true rfl, Nat.le_of_ble_eq_true rfl⟩) d_LT_table_2 rfl rfl (Nat.le_of_ble_eq_true rfl) (Nat.le_of_ble_eq_true rfl) (Nat.le_of_ble_eq_true rfl) ?_
    refine J_astoreO (pc := 5) (x := none) (lv' := [(4, va_rf none), (0, .ref x0), (1, .int x1), (2, .int x2), (3, .int x3)]) X d_LT_table_5 (by decide) rfl ?_
    refine J_aloadO (pc := 7) (x := none) X 0 d_LT_table_7 rfl ?_
    refine J_ifnonnull (pc := 9) (x := none) (tgt := 16) X d_LT_table_9 (by decide) (fun _ => ?_) (fun y q => by cases q)
    refine J_iconst (pc := 12) (v := -1) X d_LT_table_12 (by decide) ?_
    refine J_goto (pc := 13) (tgt := 27) X d_LT_table_13 (by decide) ?_
    subst hr
    refine J_istore (pc := 27) (lv' := [(5, .int (-1)), (4, va_rf none), (0, .ref x0), (1, .int x1), (2, .int x2), (3, .int x3)]) X d_LT_table_27 (by decide) rfl ?_
    exact kk _
  · refine J_callV (pc := 2) (As := [.int x1]) (rest := []) (o := (some (va_rf (some a)))) (h2 := h1) X rfl hc_LT hi (c_LT_editionOn l D K F hE) (cwV_of (nA := 1) X.fix k_442 k_444 k_445 k_401 k_443 ⟨rfl, rfl, rfl⟩ (by decide +kernel) ⟨Nat.le_of_ble_eq_true rfl, Nat.le_of_ble_eq_true rfl⟩) d_LT_table_2 rfl rfl (Nat.le_of_ble_eq_true rfl) (Nat.le_of_ble_eq_true rfl) (Nat.le_of_ble_eq_true rfl) ?_
    refine J_astoreO (pc := 5) (x := some a) (lv' := [(4, va_rf (some a)), (0, .ref x0), (1, .int x1), (2, .int x2), (3, .int x3)]) X d_LT_table_5 (by decide) rfl ?_
    refine J_aloadO (pc := 7) (x := some a) X 0 d_LT_table_7 rfl ?_
    refine J_ifnonnull (pc := 9) (x := some a) (tgt := 16) X d_LT_table_9 (by decide) (fun q => by cases q) (fun y _ => ?_)
    refine J_aloadO (pc := 16) (x := some a) X 0 d_LT_table_16 rfl ?_
    refine J_getAN (pc := 18) X hc_Edition in_Edition 2 nw_12 (by decide) rfl d_LT_table_18 (show va_rf (some a) = .ref a from rfl) hv ?_
    refine J_iload_n (pc := 21) X 3 d_LT_table_21 rfl ?_
    refine J_iload_n (pc := 22) X 4 d_LT_table_22 rfl ?_
    refine J_i2l (pc := 23) X d_LT_table_23 ?_
    refine J_callV (pc := 24) (As := [.int x2, .long x3.toInt64]) (rest := []) (o := (some (.int r))) (h2 := h2) X rfl hc_Tables hiv (c_Tables_numberAt l D K F hT) (cwV_of (nA := 2) X.fix k_tab k_198 k_199 k_71 k_197 ⟨rfl, rfl, rfl⟩ (by decide +kernel) ⟨Nat.le_of_ble_eq_true rfl, Nat.le_of_ble_eq_true rfl⟩) d_LT_table_24 rfl rfl (Nat.le_of_ble_eq_true rfl) (Nat.le_of_ble_eq_true rfl) (Nat.le_of_ble_eq_true rfl) ?_
    refine J_istore (pc := 27) (lv' := [(5, .int r), (4, va_rf (some a)), (0, .ref x0), (1, .int x1), (2, .int x2), (3, .int x3)]) X d_LT_table_27 (by decide) rfl ?_
    exact kk _
set_option maxRecDepth 100000 in
set_option maxHeartbeats 4000000 in
theorem c_LT_table (l : Launch) (D : va_G) (K : (Nat → Nat) × (Nat → Nat)) (F : Nat) {h h2 : hH} {x0 : Nat} {x1 x2 x3 r : Int32} (hi : hIs h x0 11 = some ()) (hN : NumAt F h x0 x1 x2 x3 r h2) (hr0 : r ≠ -1) : Met l y_LT_table (.code y_LT_table prog_1_method_12_code 6 (some .int) :: T0) rm_LT_table (hPc hG D cls0 K [.ref x0, .int x1, .int x2, .int x3] h) (hQ D cls0 h (some (.int r)) h2) 1 6 (hF h) := by
  refine J_met (lv := [(0, .ref x0), (1, .int x1), (2, .int x2), (3, .int x3)]) (by decide) (Nat.le_of_ble_eq_true rfl) rfl ?_
  intro p e s m below meth c X hr hlk hnm
  refine w_LT_table X hi hN (fun v4 => ?_)
  refine J_iload (pc := 29) X 0 d_LT_table_29 rfl ?_
  refine J_iconst (pc := 31) (v := -1) X d_LT_table_31 (by decide) ?_
  refine J_icmp_ne (pc := 32) (tgt := 45) X d_LT_table_32 (by decide) (fun _ => ?_) (fun q => absurd q hr0)
  refine J_iload (pc := 45) X 0 d_LT_table_45 rfl ?_
  exact J_iret (pc := 47) X hr hlk (Nat.zero_le _) (Nat.zero_le _) d_LT_table_47
/-- a contract of a method that throws, out of a walk -/
theorem J_metT {l : Launch} {y : MethodName} {cc : ByteArray} {mL : Nat} {ret : Option FieldType} {rm : Room} {D : va_G} {K : (Nat → Nat) × (Nat → Nat)} {av : List Value} {h h2 : hH} {mc ms : Nat} (lv : List (Nat × Value)) (hy : plainName y.cls = true) (hlen : (lg_sl av).length ≤ mL) (hlv : lv_args 0 av = lv)
    (body : ∀ (p : Program) (e : Env) (s : State) (m : MethodId) (below : List Frame) (meth : Method) (c : Code), hCx hG p m c cc mL s av.toArray T0 y.cls D cls0 K (hF h) → tH (hF h) s s.heap → meth.locks = false → c.exceptionTable.isEmpty = true → J p l e rm s m av.toArray below meth c mL D cls0 (hF h) h lv 0 0 (MQT below (hQT D cls0 h h2) av.toArray s mc ms (hF h)) 0 []) :
    MetFree l y (headSpec (.code y cc mL ret :: T0) rm) (fun a U => hPc hG D cls0 K av h a U ∧ tH (hF h) U U.heap) (fun _ _ _ _ _ => True) (fun a st o t => hQT D cls0 h h2 a st o t ∧ ∃ L, thE st o t L mc ms ∧ ∀ q ∈ L, hF h q.base) := by
  subst hlv
  refine MetFree.of_bodyS (code := cc) (maxLocals := mL) (ret := ret) hy ?_ ?_
  · intro args s m h hn
    obtain ⟨meth, c, h1, h2, h3, h4, h5, h6, -, -⟩ := Cond.code_spec hn (atoms_spec (ws := .code y cc mL ret :: T0) h _ List.mem_cons_self)
    exact ⟨meth, c, h1, h2, h3, h4, h5, h6⟩
  · intro p e s m args below meth c s₁ Bd hml hP _
    obtain ⟨⟨rfl, hw0, hs0⟩, hZ⟩ := hP
    have hts := atoms_spec (ws := .code y cc mL ret :: T0) Bd.pre
    have hml : c.maxLocals = mL := Bd.maxLocals_eq (hts _ List.mem_cons_self)
    have hl := lv_entry av (n := mL) hlen
    have hh0 : s₁.heap = s.heap := by rw [Bd.state]; rfl
    have Kk := body p e s m below meth c ⟨Bd.exec, Bd.bytes, hml, findClass_of_methodNamed Bd.named, fun w hw9 => hts w (List.mem_cons_of_mem _ hw9), hs0, fun q hq => Or.inl (by rw [← hw0.1]; exact hq)⟩ hZ Bd.notSynchronized (Bd.noHandlers (hts _ List.mem_cons_self)) s.heap [] _ hw0.self va_S.rf hl
    rw [← lg_entry_eq] at Kk
    obtain ⟨t, a1, o, b1, b2, b3⟩ := Kk s₁ hh0 (Stand.of_body Bd)
    exact ⟨t, o, a1, b1, b2, b3⟩
set_option maxRecDepth 100000 in
set_option maxHeartbeats 4000000 in
theorem t_LT_table (l : Launch) (hfl : l.flags = flags0) (D : va_G) (K : (Nat → Nat) × (Nat → Nat)) (F : Nat) {h h2 : hH} {x0 : Nat} {x1 x2 x3 : Int32} (hi : hIs h x0 11 = some ()) (hN : NumAt F h x0 x1 x2 x3 (-1) h2) : MetFree l y_LT_table (headSpec (.code y_LT_table prog_1_method_12_code 6 (some .int) :: T0) rm_LT_table) (fun a U => hPc hG D cls0 K [.ref x0, .int x1, .int x2, .int x3] h a U ∧ tH (hF h) U U.heap) (fun _ _ _ _ _ => True) (fun a st o t => hQT D cls0 h h2 a st o t ∧ ∃ L, thE st o t L 1 6 ∧ ∀ q ∈ L, hF h q.base) := by
  refine J_metT (lv := [(0, .ref x0), (1, .int x1), (2, .int x2), (3, .int x3)]) (by decide) (Nat.le_of_ble_eq_true rfl) rfl ?_
  intro p e s m below meth c X Z hlk hexc
  refine w_LT_table X hi hN (fun v4 => ?_)
  refine J_iload (pc := 29) X 0 d_LT_table_29 rfl ?_
  refine J_iconst (pc := 31) (v := -1) X d_LT_table_31 (by decide) ?_
  refine J_icmp_ne (pc := 32) (tgt := 45) X d_LT_table_32 (by decide) (fun q => absurd rfl q) (fun _ => ?_)
  exact J_throw (pc := 35) X hfl Z hlk hexc d_LT_table_35 d_LT_table_38 d_LT_table_39 d_LT_table_41 d_LT_table_44 (Nat.le_of_ble_eq_true rfl) (Nat.le_of_ble_eq_true rfl) (Nat.le_of_ble_eq_true rfl) (Nat.le_of_ble_eq_true rfl) (Nat.le_of_ble_eq_true rfl) (Nat.le_of_ble_eq_true rfl)
