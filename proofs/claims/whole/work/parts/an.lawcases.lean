/-! THE LAW, CASE BY CASE -/
theorem rmc : room_1.cells = 601024 := rfl
theorem rms : room_1.slots = 7293034 := rfl
def lng (u w : Int32) : Int64 := (u.toInt64 <<< ((32 : Int32).toInt64 &&& 63)) ||| (w.toInt64 &&& 4294967295)
theorem cmp_self (x : Int64) : lg_cmp x x = 0 := by
  have h : ¬ x < x := fun q => Int64.lt_irrefl q
  simp [lg_cmp, h]
set_option maxRecDepth 100000 in
theorem k_lng : [Cond.constantLong "LicenceTextsLaw" 34 4294967295].all (fun w => decide (w ∈ lw_tbl) && goodWord w) = true := by decide +kernel
/-- the surroundings of the law's walk -/
def LCx (p : Program) (l : Launch) (s : State) (m : MethodId) (meth : Method) (c : Code) (b L : Nat) (xs : Nat → Int32) (D : va_G) (K : (Nat → Nat) × (Nat → Nat)) : Prop :=
  hCx hG p m c code 7 s #[Value.ref b] T0 "LicenceTextsLaw" D cls0 K (fun q => s.heap.size ≤ q) ∧ va_X b L xs s s.heap ∧ b < s.heap.size ∧ L ≤ 2560 ∧ tH (fun q => s.heap.size ≤ q) s s.heap ∧ l.flags = flags0 ∧ meth.sig.returnType = ret ∧ meth.locks = false
abbrev LV (b x mm o I : Nat) : List (Nat × Value) := [(0, .ref b), (1, .ref x), (2, .ref mm), (3, .ref o), (4, .int (nI I))]

set_option maxRecDepth 100000 in
theorem k_w_LT_unit : [Cond.methodLink "LicenceTextsLaw" 19 y_LT_unit, .instanceMethod y_LT_unit, .selects "LicenceTexts" y_LT_unit y_LT_unit, .initialized "LicenceTexts", .code y_LT_unit prog_1_method_2_code 2 (some .boolean)].all (fun w => decide (w ∈ lw_tbl) && goodWord w) = true := by decide +kernel
set_option maxRecDepth 100000 in
theorem k_w_Mo_unit : [Cond.methodLink "LicenceTextsLaw" 23 y_Mo_unit, .instanceMethod y_Mo_unit, .selects "LicenceTextsModel" y_Mo_unit y_Mo_unit, .initialized "LicenceTextsModel", .code y_Mo_unit prog_14_method_3_code 2 (some .boolean)].all (fun w => decide (w ∈ lw_tbl) && goodWord w) = true := by decide +kernel
set_option maxRecDepth 100000 in
set_option maxHeartbeats 4000000 in
theorem lc_unit {p : Program} {l : Launch} {e : Env} {s : State} {m : MethodId} {below : List Frame} {meth : Method} {c : Code} {b L : Nat} {xs : Nat → Int32} {D : va_G} {K : (Nat → Nat) × (Nat → Nat)} {x mm o j I : Nat} {h : hH} {Q : State → Prop} (C : LCx p l s m meth c b L xs D K) (hI : I = 5 * j) (hlt : I + 5 ≤ L) (LIh : LI x mm o h j) (next : ∀ h', LI x mm o h' (j + 1) → J p l e room_1 s m #[Value.ref b] below meth c 7 D cls0 (fun q => s.heap.size ≤ q) h' (LV b x mm o I) (68 + 418 * (j + 1)) (26254 + 5335 * (j + 1)) Q 732 []) : J p l e room_1 s m #[Value.ref b] below meth c 7 D cls0 (fun q => s.heap.size ≤ q) h (LV b x mm o I) (68 + 418 * j) (26254 + 5335 * j) Q 116 [] := by
  obtain ⟨X, V, hbl, hL, Z, hfl, hr, hlk⟩ := C
  have hbA : ¬ (fun q => s.heap.size ≤ q) b := Nat.not_le.mpr hbl
  obtain ⟨hX, hM, mS, ad, f, P, CIx, RM⟩ := LIh
  have hj : j < 512 := by omega
  obtain ⟨r, hX2, m2, ad2, e1, C2, e2⟩ := cr_unit CIx RM (xs (I + 1))
  simp only at e1 e2
  refine J_aload_n (pc := 116) X 1 dw_116 rfl ?_
  refine J_arg (pc := 117) X V hbl hbA hL 1 (by decide) (by omega) 0 4 rfl rfl dw_117 dw_118 dw_120 dw_121 dw_122 ?_
  refine J_callVG (pc := 123) (As := [.int (xs (I + 1))]) (rest := []) (o := some (.int r)) X P.1 hc_LT CIx.is (c_LT_unit l D K FU e1) (cwV_of (nA := 1) X.fix (k_of k_w_LT_unit 0 rfl) (k_of k_w_LT_unit 1 rfl) (k_of k_w_LT_unit 2 rfl) (k_of k_w_LT_unit 3 rfl) (k_of k_w_LT_unit 4 rfl) ⟨rfl, rfl, rfl⟩ (by decide +kernel) ⟨Nat.le_of_ble_eq_true rfl, Nat.le_of_ble_eq_true rfl⟩) dw_123 rfl rfl (Nat.le_of_ble_eq_true rfl) (by rw [rmc]; omega) (by rw [rms]; omega) (fun h2 jn le => ?_)
  have P2 := P.mid jn
  obtain ⟨hM2, f1, R2⟩ := e2 h2.1
  refine J_aload_n (pc := 126) X 2 dw_126 rfl ?_
  refine J_arg (pc := 127) X V hbl hbA hL 1 (by decide) (by omega) 0 4 rfl rfl dw_127 dw_128 dw_130 dw_131 dw_132 ?_
  refine J_callVG (pc := 133) (As := [.int (xs (I + 1))]) (rest := [.int r]) (o := some (.int r)) X P2.2.1 hc_Mo (rIs (h := (h2.1, hM.2)) (s := mS) RM) (c_Mo_unit l D K FU f1) (cwV_of (nA := 1) X.fix (k_of k_w_Mo_unit 0 rfl) (k_of k_w_Mo_unit 1 rfl) (k_of k_w_Mo_unit 2 rfl) (k_of k_w_Mo_unit 3 rfl) (k_of k_w_Mo_unit 4 rfl) ⟨rfl, rfl, rfl⟩ (by decide +kernel) ⟨Nat.le_of_ble_eq_true rfl, Nat.le_of_ble_eq_true rfl⟩) dw_133 rfl rfl (Nat.le_of_ble_eq_true rfl) (by rw [rmc]; omega) (by rw [rms]; omega) (fun h3 jn3 le3 => ?_)
  have P3 := P2.fin jn3
  have hb : hX2.1 ≤ h3.1 := by rw [jn3.1, ← jn.1]; exact le3
  refine J_icmp_eq (pc := 136) (tgt := 732) X dw_136 (by decide) (fun _ => ?_) (fun q => absurd rfl q)
  refine J_wid (by omega) (by omega) (next h3 ⟨_, _, _, _, _, P3, C2.bump hb, R2⟩)
set_option maxRecDepth 100000 in
theorem k_w_LT_read : [Cond.methodLink "LicenceTextsLaw" 24 y_LT_read, .instanceMethod y_LT_read, .selects "LicenceTexts" y_LT_read y_LT_read, .initialized "LicenceTexts", .code y_LT_read prog_1_method_3_code 4 (some .int)].all (fun w => decide (w ∈ lw_tbl) && goodWord w) = true := by decide +kernel
set_option maxRecDepth 100000 in
theorem k_w_Mo_read : [Cond.methodLink "LicenceTextsLaw" 28 y_Mo_read, .instanceMethod y_Mo_read, .selects "LicenceTextsModel" y_Mo_read y_Mo_read, .initialized "LicenceTextsModel", .code y_Mo_read prog_14_method_19_code 2 (some .int)].all (fun w => decide (w ∈ lw_tbl) && goodWord w) = true := by decide +kernel
set_option maxRecDepth 100000 in
set_option maxHeartbeats 4000000 in
theorem lc_read {p : Program} {l : Launch} {e : Env} {s : State} {m : MethodId} {below : List Frame} {meth : Method} {c : Code} {b L : Nat} {xs : Nat → Int32} {D : va_G} {K : (Nat → Nat) × (Nat → Nat)} {x mm o j I : Nat} {h : hH} {Q : State → Prop} (C : LCx p l s m meth c b L xs D K) (hI : I = 5 * j) (hlt : I + 5 ≤ L) (LIh : LI x mm o h j) (next : ∀ h', LI x mm o h' (j + 1) → J p l e room_1 s m #[Value.ref b] below meth c 7 D cls0 (fun q => s.heap.size ≤ q) h' (LV b x mm o I) (68 + 418 * (j + 1)) (26254 + 5335 * (j + 1)) Q 732 []) : J p l e room_1 s m #[Value.ref b] below meth c 7 D cls0 (fun q => s.heap.size ≤ q) h (LV b x mm o I) (68 + 418 * j) (26254 + 5335 * j) Q 141 [] := by
  obtain ⟨X, V, hbl, hL, Z, hfl, hr, hlk⟩ := C
  have hbA : ¬ (fun q => s.heap.size ≤ q) b := Nat.not_le.mpr hbl
  obtain ⟨hX, hM, mS, ad, f, P, CIx, RM⟩ := LIh
  have hj : j < 512 := by omega
  obtain ⟨r, hX2, m2, ad2, e1, C2, e2⟩ := cr_read CIx RM (xs (I + 1))
  simp only at e1 e2
  refine J_aload_n (pc := 141) X 1 dw_141 rfl ?_
  refine J_arg (pc := 142) X V hbl hbA hL 1 (by decide) (by omega) 0 4 rfl rfl dw_142 dw_143 dw_145 dw_146 dw_147 ?_
  refine J_callVG (pc := 148) (As := [.int (xs (I + 1))]) (rest := []) (o := some (.int r)) X P.1 hc_LT CIx.is (c_LT_read l D K FU e1) (cwV_of (nA := 1) X.fix (k_of k_w_LT_read 0 rfl) (k_of k_w_LT_read 1 rfl) (k_of k_w_LT_read 2 rfl) (k_of k_w_LT_read 3 rfl) (k_of k_w_LT_read 4 rfl) ⟨rfl, rfl, rfl⟩ (by decide +kernel) ⟨Nat.le_of_ble_eq_true rfl, Nat.le_of_ble_eq_true rfl⟩) dw_148 rfl rfl (Nat.le_of_ble_eq_true rfl) (by rw [rmc]; omega) (by rw [rms]; omega) (fun h2 jn le => ?_)
  have P2 := P.mid jn
  obtain ⟨hM2, f1, R2⟩ := e2 h2.1
  refine J_aload_n (pc := 151) X 2 dw_151 rfl ?_
  refine J_arg (pc := 152) X V hbl hbA hL 1 (by decide) (by omega) 0 4 rfl rfl dw_152 dw_153 dw_155 dw_156 dw_157 ?_
  refine J_callVG (pc := 158) (As := [.int (xs (I + 1))]) (rest := [.int r]) (o := some (.int r)) X P2.2.1 hc_Mo (rIs (h := (h2.1, hM.2)) (s := mS) RM) (c_Mo_read l D K FU f1) (cwV_of (nA := 1) X.fix (k_of k_w_Mo_read 0 rfl) (k_of k_w_Mo_read 1 rfl) (k_of k_w_Mo_read 2 rfl) (k_of k_w_Mo_read 3 rfl) (k_of k_w_Mo_read 4 rfl) ⟨rfl, rfl, rfl⟩ (by decide +kernel) ⟨Nat.le_of_ble_eq_true rfl, Nat.le_of_ble_eq_true rfl⟩) dw_158 rfl rfl (Nat.le_of_ble_eq_true rfl) (by rw [rmc]; omega) (by rw [rms]; omega) (fun h3 jn3 le3 => ?_)
  have P3 := P2.fin jn3
  have hb : hX2.1 ≤ h3.1 := by rw [jn3.1, ← jn.1]; exact le3
  refine J_icmp_eq (pc := 161) (tgt := 732) X dw_161 (by decide) (fun _ => ?_) (fun q => absurd rfl q)
  refine J_wid (by omega) (by omega) (next h3 ⟨_, _, _, _, _, P3, C2.bump hb, R2⟩)
set_option maxRecDepth 100000 in
theorem k_w_LT_editions : [Cond.methodLink "LicenceTextsLaw" 29 y_LT_editions, .instanceMethod y_LT_editions, .selects "LicenceTexts" y_LT_editions y_LT_editions, .initialized "LicenceTexts", .code y_LT_editions prog_1_method_4_code 1 (some .int)].all (fun w => decide (w ∈ lw_tbl) && goodWord w) = true := by decide +kernel
set_option maxRecDepth 100000 in
theorem k_w_Mo_editions : [Cond.methodLink "LicenceTextsLaw" 33 y_Mo_editions, .instanceMethod y_Mo_editions, .selects "LicenceTextsModel" y_Mo_editions y_Mo_editions, .initialized "LicenceTextsModel", .code y_Mo_editions prog_14_method_20_code 1 (some .int)].all (fun w => decide (w ∈ lw_tbl) && goodWord w) = true := by decide +kernel
set_option maxRecDepth 100000 in
set_option maxHeartbeats 4000000 in
theorem lc_editions {p : Program} {l : Launch} {e : Env} {s : State} {m : MethodId} {below : List Frame} {meth : Method} {c : Code} {b L : Nat} {xs : Nat → Int32} {D : va_G} {K : (Nat → Nat) × (Nat → Nat)} {x mm o j I : Nat} {h : hH} {Q : State → Prop} (C : LCx p l s m meth c b L xs D K) (hI : I = 5 * j) (hlt : I + 5 ≤ L) (LIh : LI x mm o h j) (next : ∀ h', LI x mm o h' (j + 1) → J p l e room_1 s m #[Value.ref b] below meth c 7 D cls0 (fun q => s.heap.size ≤ q) h' (LV b x mm o I) (68 + 418 * (j + 1)) (26254 + 5335 * (j + 1)) Q 732 []) : J p l e room_1 s m #[Value.ref b] below meth c 7 D cls0 (fun q => s.heap.size ≤ q) h (LV b x mm o I) (68 + 418 * j) (26254 + 5335 * j) Q 166 [] := by
  obtain ⟨X, V, hbl, hL, Z, hfl, hr, hlk⟩ := C
  have hbA : ¬ (fun q => s.heap.size ≤ q) b := Nat.not_le.mpr hbl
  obtain ⟨hX, hM, mS, ad, f, P, CIx, RM⟩ := LIh
  have hj : j < 512 := by omega
  obtain ⟨r, hX2, m2, ad2, e1, C2, e2⟩ := cr_editions CIx RM 
  simp only at e1 e2
  refine J_aload_n (pc := 166) X 1 dw_166 rfl ?_
  refine J_callVG (pc := 167) (As := []) (rest := []) (o := some (.int r)) X P.1 hc_LT CIx.is (c_LT_editions l D K FU e1) (cwV_of (nA := 0) X.fix (k_of k_w_LT_editions 0 rfl) (k_of k_w_LT_editions 1 rfl) (k_of k_w_LT_editions 2 rfl) (k_of k_w_LT_editions 3 rfl) (k_of k_w_LT_editions 4 rfl) ⟨rfl, rfl, rfl⟩ (by decide +kernel) ⟨Nat.le_of_ble_eq_true rfl, Nat.le_of_ble_eq_true rfl⟩) dw_167 rfl rfl (Nat.le_of_ble_eq_true rfl) (by rw [rmc]; omega) (by rw [rms]; omega) (fun h2 jn le => ?_)
  have P2 := P.mid jn
  obtain ⟨hM2, f1, R2⟩ := e2 h2.1
  refine J_aload_n (pc := 170) X 2 dw_170 rfl ?_
  refine J_callVG (pc := 171) (As := []) (rest := [.int r]) (o := some (.int r)) X P2.2.1 hc_Mo (rIs (h := (h2.1, hM.2)) (s := mS) RM) (c_Mo_editions l D K FU f1) (cwV_of (nA := 0) X.fix (k_of k_w_Mo_editions 0 rfl) (k_of k_w_Mo_editions 1 rfl) (k_of k_w_Mo_editions 2 rfl) (k_of k_w_Mo_editions 3 rfl) (k_of k_w_Mo_editions 4 rfl) ⟨rfl, rfl, rfl⟩ (by decide +kernel) ⟨Nat.le_of_ble_eq_true rfl, Nat.le_of_ble_eq_true rfl⟩) dw_171 rfl rfl (Nat.le_of_ble_eq_true rfl) (by rw [rmc]; omega) (by rw [rms]; omega) (fun h3 jn3 le3 => ?_)
  have P3 := P2.fin jn3
  have hb : hX2.1 ≤ h3.1 := by rw [jn3.1, ← jn.1]; exact le3
  refine J_icmp_eq (pc := 174) (tgt := 732) X dw_174 (by decide) (fun _ => ?_) (fun q => absurd rfl q)
  refine J_wid (by omega) (by omega) (next h3 ⟨_, _, _, _, _, P3, C2.bump hb, R2⟩)
set_option maxRecDepth 100000 in
theorem k_w_LT_fact : [Cond.methodLink "LicenceTextsLaw" 36 y_LT_fact, .instanceMethod y_LT_fact, .selects "LicenceTexts" y_LT_fact y_LT_fact, .initialized "LicenceTexts", .code y_LT_fact prog_1_method_5_code 4 (some .boolean)].all (fun w => decide (w ∈ lw_tbl) && goodWord w) = true := by decide +kernel
set_option maxRecDepth 100000 in
theorem k_w_Mo_fact : [Cond.methodLink "LicenceTextsLaw" 40 y_Mo_fact, .instanceMethod y_Mo_fact, .selects "LicenceTextsModel" y_Mo_fact y_Mo_fact, .initialized "LicenceTextsModel", .code y_Mo_fact prog_14_method_21_code 4 (some .boolean)].all (fun w => decide (w ∈ lw_tbl) && goodWord w) = true := by decide +kernel
set_option maxRecDepth 100000 in
set_option maxHeartbeats 4000000 in
theorem lc_fact {p : Program} {l : Launch} {e : Env} {s : State} {m : MethodId} {below : List Frame} {meth : Method} {c : Code} {b L : Nat} {xs : Nat → Int32} {D : va_G} {K : (Nat → Nat) × (Nat → Nat)} {x mm o j I : Nat} {h : hH} {Q : State → Prop} (C : LCx p l s m meth c b L xs D K) (hI : I = 5 * j) (hlt : I + 5 ≤ L) (LIh : LI x mm o h j) (next : ∀ h', LI x mm o h' (j + 1) → J p l e room_1 s m #[Value.ref b] below meth c 7 D cls0 (fun q => s.heap.size ≤ q) h' (LV b x mm o I) (68 + 418 * (j + 1)) (26254 + 5335 * (j + 1)) Q 732 []) : J p l e room_1 s m #[Value.ref b] below meth c 7 D cls0 (fun q => s.heap.size ≤ q) h (LV b x mm o I) (68 + 418 * j) (26254 + 5335 * j) Q 179 [] := by
  obtain ⟨X, V, hbl, hL, Z, hfl, hr, hlk⟩ := C
  have hbA : ¬ (fun q => s.heap.size ≤ q) b := Nat.not_le.mpr hbl
  obtain ⟨hX, hM, mS, ad, f, P, CIx, RM⟩ := LIh
  have hj : j < 512 := by omega
  obtain ⟨r, hX2, m2, ad2, e1, C2, e2⟩ := cr_fact CIx RM (xs (I + 1)) (lng (xs (I + 2)) (xs (I + 3)))
  simp only at e1 e2
  refine J_aload_n (pc := 179) X 1 dw_179 rfl ?_
  refine J_arg (pc := 180) X V hbl hbA hL 1 (by decide) (by omega) 0 4 rfl rfl dw_180 dw_181 dw_183 dw_184 dw_185 ?_
  refine J_arg (pc := 186) X V hbl hbA hL 2 (by decide) (by omega) 0 4 rfl rfl dw_186 dw_187 dw_189 dw_190 dw_191 ?_
  refine J_i2l (pc := 192) X dw_192 ?_
  refine J_bipush (pc := 193) (v := 32) X dw_193 (by decide) ?_
  refine J_lshl (pc := 195) X dw_195 ?_
  refine J_arg (pc := 196) X V hbl hbA hL 3 (by decide) (by omega) 0 4 rfl rfl dw_196 dw_197 dw_199 dw_200 dw_201 ?_
  refine J_i2l (pc := 202) X dw_202 ?_
  refine J_ldc2 (pc := 203) X (k_of k_lng 0 rfl) dw_203 ?_
  refine J_land (pc := 206) X dw_206 ?_
  refine J_lor (pc := 207) X dw_207 ?_
  refine J_callVG (pc := 208) (As := [.int (xs (I + 1)), .long (lng (xs (I + 2)) (xs (I + 3)))]) (rest := []) (o := some (.int r)) X P.1 hc_LT CIx.is (c_LT_fact l D K FU e1) (cwV_of (nA := 2) X.fix (k_of k_w_LT_fact 0 rfl) (k_of k_w_LT_fact 1 rfl) (k_of k_w_LT_fact 2 rfl) (k_of k_w_LT_fact 3 rfl) (k_of k_w_LT_fact 4 rfl) ⟨rfl, rfl, rfl⟩ (by decide +kernel) ⟨Nat.le_of_ble_eq_true rfl, Nat.le_of_ble_eq_true rfl⟩) dw_208 rfl rfl (Nat.le_of_ble_eq_true rfl) (by rw [rmc]; omega) (by rw [rms]; omega) (fun h2 jn le => ?_)
  have P2 := P.mid jn
  obtain ⟨hM2, f1, R2⟩ := e2 h2.1
  refine J_aload_n (pc := 211) X 2 dw_211 rfl ?_
  refine J_arg (pc := 212) X V hbl hbA hL 1 (by decide) (by omega) 0 4 rfl rfl dw_212 dw_213 dw_215 dw_216 dw_217 ?_
  refine J_arg (pc := 218) X V hbl hbA hL 2 (by decide) (by omega) 0 4 rfl rfl dw_218 dw_219 dw_221 dw_222 dw_223 ?_
  refine J_i2l (pc := 224) X dw_224 ?_
  refine J_bipush (pc := 225) (v := 32) X dw_225 (by decide) ?_
  refine J_lshl (pc := 227) X dw_227 ?_
  refine J_arg (pc := 228) X V hbl hbA hL 3 (by decide) (by omega) 0 4 rfl rfl dw_228 dw_229 dw_231 dw_232 dw_233 ?_
  refine J_i2l (pc := 234) X dw_234 ?_
  refine J_ldc2 (pc := 235) X (k_of k_lng 0 rfl) dw_235 ?_
  refine J_land (pc := 238) X dw_238 ?_
  refine J_lor (pc := 239) X dw_239 ?_
  refine J_callVG (pc := 240) (As := [.int (xs (I + 1)), .long (lng (xs (I + 2)) (xs (I + 3)))]) (rest := [.int r]) (o := some (.int r)) X P2.2.1 hc_Mo (rIs (h := (h2.1, hM.2)) (s := mS) RM) (c_Mo_fact l D K FU f1) (cwV_of (nA := 2) X.fix (k_of k_w_Mo_fact 0 rfl) (k_of k_w_Mo_fact 1 rfl) (k_of k_w_Mo_fact 2 rfl) (k_of k_w_Mo_fact 3 rfl) (k_of k_w_Mo_fact 4 rfl) ⟨rfl, rfl, rfl⟩ (by decide +kernel) ⟨Nat.le_of_ble_eq_true rfl, Nat.le_of_ble_eq_true rfl⟩) dw_240 rfl rfl (Nat.le_of_ble_eq_true rfl) (by rw [rmc]; omega) (by rw [rms]; omega) (fun h3 jn3 le3 => ?_)
  have P3 := P2.fin jn3
  have hb : hX2.1 ≤ h3.1 := by rw [jn3.1, ← jn.1]; exact le3
  refine J_icmp_eq (pc := 243) (tgt := 732) X dw_243 (by decide) (fun _ => ?_) (fun q => absurd rfl q)
  refine J_wid (by omega) (by omega) (next h3 ⟨_, _, _, _, _, P3, C2.bump hb, R2⟩)
set_option maxRecDepth 100000 in
theorem k_w_LT_clearFacts : [Cond.methodLink "LicenceTextsLaw" 41 y_LT_clearFacts, .instanceMethod y_LT_clearFacts, .selects "LicenceTexts" y_LT_clearFacts y_LT_clearFacts, .initialized "LicenceTexts", .code y_LT_clearFacts prog_1_method_6_code 1 (some .int)].all (fun w => decide (w ∈ lw_tbl) && goodWord w) = true := by decide +kernel
set_option maxRecDepth 100000 in
theorem k_w_Mo_clearFacts : [Cond.methodLink "LicenceTextsLaw" 44 y_Mo_clearFacts, .instanceMethod y_Mo_clearFacts, .selects "LicenceTextsModel" y_Mo_clearFacts y_Mo_clearFacts, .initialized "LicenceTextsModel", .code y_Mo_clearFacts prog_14_method_22_code 3 (some .int)].all (fun w => decide (w ∈ lw_tbl) && goodWord w) = true := by decide +kernel
set_option maxRecDepth 100000 in
set_option maxHeartbeats 4000000 in
theorem lc_clearFacts {p : Program} {l : Launch} {e : Env} {s : State} {m : MethodId} {below : List Frame} {meth : Method} {c : Code} {b L : Nat} {xs : Nat → Int32} {D : va_G} {K : (Nat → Nat) × (Nat → Nat)} {x mm o j I : Nat} {h : hH} {Q : State → Prop} (C : LCx p l s m meth c b L xs D K) (hI : I = 5 * j) (hlt : I + 5 ≤ L) (LIh : LI x mm o h j) (next : ∀ h', LI x mm o h' (j + 1) → J p l e room_1 s m #[Value.ref b] below meth c 7 D cls0 (fun q => s.heap.size ≤ q) h' (LV b x mm o I) (68 + 418 * (j + 1)) (26254 + 5335 * (j + 1)) Q 732 []) : J p l e room_1 s m #[Value.ref b] below meth c 7 D cls0 (fun q => s.heap.size ≤ q) h (LV b x mm o I) (68 + 418 * j) (26254 + 5335 * j) Q 248 [] := by
  obtain ⟨X, V, hbl, hL, Z, hfl, hr, hlk⟩ := C
  have hbA : ¬ (fun q => s.heap.size ≤ q) b := Nat.not_le.mpr hbl
  obtain ⟨hX, hM, mS, ad, f, P, CIx, RM⟩ := LIh
  have hj : j < 512 := by omega
  obtain ⟨r, hX2, m2, ad2, e1, C2, e2⟩ := cr_clearFacts CIx RM 
  simp only at e1 e2
  refine J_aload_n (pc := 248) X 1 dw_248 rfl ?_
  refine J_callVG (pc := 249) (As := []) (rest := []) (o := some (.int r)) X P.1 hc_LT CIx.is (c_LT_clearFacts l D K FU e1) (cwV_of (nA := 0) X.fix (k_of k_w_LT_clearFacts 0 rfl) (k_of k_w_LT_clearFacts 1 rfl) (k_of k_w_LT_clearFacts 2 rfl) (k_of k_w_LT_clearFacts 3 rfl) (k_of k_w_LT_clearFacts 4 rfl) ⟨rfl, rfl, rfl⟩ (by decide +kernel) ⟨Nat.le_of_ble_eq_true rfl, Nat.le_of_ble_eq_true rfl⟩) dw_249 rfl rfl (Nat.le_of_ble_eq_true rfl) (by rw [rmc]; omega) (by rw [rms]; omega) (fun h2 jn le => ?_)
  have P2 := P.mid jn
  obtain ⟨hM2, f1, R2⟩ := e2 h2.1
  refine J_aload_n (pc := 252) X 2 dw_252 rfl ?_
  refine J_callVG (pc := 253) (As := []) (rest := [.int r]) (o := some (.int r)) X P2.2.1 hc_Mo (rIs (h := (h2.1, hM.2)) (s := mS) RM) (c_Mo_clearFacts l D K FU f1) (cwV_of (nA := 0) X.fix (k_of k_w_Mo_clearFacts 0 rfl) (k_of k_w_Mo_clearFacts 1 rfl) (k_of k_w_Mo_clearFacts 2 rfl) (k_of k_w_Mo_clearFacts 3 rfl) (k_of k_w_Mo_clearFacts 4 rfl) ⟨rfl, rfl, rfl⟩ (by decide +kernel) ⟨Nat.le_of_ble_eq_true rfl, Nat.le_of_ble_eq_true rfl⟩) dw_253 rfl rfl (Nat.le_of_ble_eq_true rfl) (by rw [rmc]; omega) (by rw [rms]; omega) (fun h3 jn3 le3 => ?_)
  have P3 := P2.fin jn3
  have hb : hX2.1 ≤ h3.1 := by rw [jn3.1, ← jn.1]; exact le3
  refine J_icmp_eq (pc := 256) (tgt := 732) X dw_256 (by decide) (fun _ => ?_) (fun q => absurd rfl q)
  refine J_wid (by omega) (by omega) (next h3 ⟨_, _, _, _, _, P3, C2.bump hb, R2⟩)
set_option maxRecDepth 100000 in
theorem k_w_LT_run : [Cond.methodLink "LicenceTextsLaw" 45 y_LT_run, .instanceMethod y_LT_run, .selects "LicenceTexts" y_LT_run y_LT_run, .initialized "LicenceTexts", .code y_LT_run prog_1_method_7_code 2 (some .int)].all (fun w => decide (w ∈ lw_tbl) && goodWord w) = true := by decide +kernel
set_option maxRecDepth 100000 in
theorem k_w_Mo_run : [Cond.methodLink "LicenceTextsLaw" 48 y_Mo_run, .instanceMethod y_Mo_run, .selects "LicenceTextsModel" y_Mo_run y_Mo_run, .initialized "LicenceTextsModel", .code y_Mo_run prog_14_method_28_code 2 (some .int)].all (fun w => decide (w ∈ lw_tbl) && goodWord w) = true := by decide +kernel
set_option maxRecDepth 100000 in
set_option maxHeartbeats 4000000 in
theorem lc_run {p : Program} {l : Launch} {e : Env} {s : State} {m : MethodId} {below : List Frame} {meth : Method} {c : Code} {b L : Nat} {xs : Nat → Int32} {D : va_G} {K : (Nat → Nat) × (Nat → Nat)} {x mm o j I : Nat} {h : hH} {Q : State → Prop} (C : LCx p l s m meth c b L xs D K) (hI : I = 5 * j) (hlt : I + 5 ≤ L) (LIh : LI x mm o h j) (next : ∀ h', LI x mm o h' (j + 1) → J p l e room_1 s m #[Value.ref b] below meth c 7 D cls0 (fun q => s.heap.size ≤ q) h' (LV b x mm o I) (68 + 418 * (j + 1)) (26254 + 5335 * (j + 1)) Q 732 []) : J p l e room_1 s m #[Value.ref b] below meth c 7 D cls0 (fun q => s.heap.size ≤ q) h (LV b x mm o I) (68 + 418 * j) (26254 + 5335 * j) Q 261 [] := by
  obtain ⟨X, V, hbl, hL, Z, hfl, hr, hlk⟩ := C
  have hbA : ¬ (fun q => s.heap.size ≤ q) b := Nat.not_le.mpr hbl
  obtain ⟨hX, hM, mS, ad, f, P, CIx, RM⟩ := LIh
  have hj : j < 512 := by omega
  obtain ⟨r, hX2, m2, ad2, e1, C2, e2⟩ := cr_run CIx RM (xs (I + 1))
  simp only at e1 e2
  refine J_aload_n (pc := 261) X 1 dw_261 rfl ?_
  refine J_arg (pc := 262) X V hbl hbA hL 1 (by decide) (by omega) 0 4 rfl rfl dw_262 dw_263 dw_265 dw_266 dw_267 ?_
  refine J_callVG (pc := 268) (As := [.int (xs (I + 1))]) (rest := []) (o := some (.int r)) X P.1 hc_LT CIx.is (c_LT_run l D K FU e1) (cwV_of (nA := 1) X.fix (k_of k_w_LT_run 0 rfl) (k_of k_w_LT_run 1 rfl) (k_of k_w_LT_run 2 rfl) (k_of k_w_LT_run 3 rfl) (k_of k_w_LT_run 4 rfl) ⟨rfl, rfl, rfl⟩ (by decide +kernel) ⟨Nat.le_of_ble_eq_true rfl, Nat.le_of_ble_eq_true rfl⟩) dw_268 rfl rfl (Nat.le_of_ble_eq_true rfl) (by rw [rmc]; omega) (by rw [rms]; omega) (fun h2 jn le => ?_)
  have P2 := P.mid jn
  obtain ⟨hM2, f1, R2⟩ := e2 h2.1
  refine J_aload_n (pc := 271) X 2 dw_271 rfl ?_
  refine J_arg (pc := 272) X V hbl hbA hL 1 (by decide) (by omega) 0 4 rfl rfl dw_272 dw_273 dw_275 dw_276 dw_277 ?_
  refine J_callVG (pc := 278) (As := [.int (xs (I + 1))]) (rest := [.int r]) (o := some (.int r)) X P2.2.1 hc_Mo (rIs (h := (h2.1, hM.2)) (s := mS) RM) (c_Mo_run l D K FU f1) (cwV_of (nA := 1) X.fix (k_of k_w_Mo_run 0 rfl) (k_of k_w_Mo_run 1 rfl) (k_of k_w_Mo_run 2 rfl) (k_of k_w_Mo_run 3 rfl) (k_of k_w_Mo_run 4 rfl) ⟨rfl, rfl, rfl⟩ (by decide +kernel) ⟨Nat.le_of_ble_eq_true rfl, Nat.le_of_ble_eq_true rfl⟩) dw_278 rfl rfl (Nat.le_of_ble_eq_true rfl) (by rw [rmc]; omega) (by rw [rms]; omega) (fun h3 jn3 le3 => ?_)
  have P3 := P2.fin jn3
  have hb : hX2.1 ≤ h3.1 := by rw [jn3.1, ← jn.1]; exact le3
  refine J_icmp_eq (pc := 281) (tgt := 732) X dw_281 (by decide) (fun _ => ?_) (fun q => absurd rfl q)
  refine J_wid (by omega) (by omega) (next h3 ⟨_, _, _, _, _, P3, C2.bump hb, R2⟩)
set_option maxRecDepth 100000 in
theorem k_w_LT_walk : [Cond.methodLink "LicenceTextsLaw" 49 y_LT_walk, .instanceMethod y_LT_walk, .selects "LicenceTexts" y_LT_walk y_LT_walk, .initialized "LicenceTexts", .code y_LT_walk prog_1_method_8_code 2 (some .int)].all (fun w => decide (w ∈ lw_tbl) && goodWord w) = true := by decide +kernel
set_option maxRecDepth 100000 in
theorem k_w_Mo_walk : [Cond.methodLink "LicenceTextsLaw" 52 y_Mo_walk, .instanceMethod y_Mo_walk, .selects "LicenceTextsModel" y_Mo_walk y_Mo_walk, .initialized "LicenceTextsModel", .code y_Mo_walk prog_14_method_29_code 2 (some .int)].all (fun w => decide (w ∈ lw_tbl) && goodWord w) = true := by decide +kernel
set_option maxRecDepth 100000 in
set_option maxHeartbeats 4000000 in
theorem lc_walk {p : Program} {l : Launch} {e : Env} {s : State} {m : MethodId} {below : List Frame} {meth : Method} {c : Code} {b L : Nat} {xs : Nat → Int32} {D : va_G} {K : (Nat → Nat) × (Nat → Nat)} {x mm o j I : Nat} {h : hH} {Q : State → Prop} (C : LCx p l s m meth c b L xs D K) (hI : I = 5 * j) (hlt : I + 5 ≤ L) (LIh : LI x mm o h j) (next : ∀ h', LI x mm o h' (j + 1) → J p l e room_1 s m #[Value.ref b] below meth c 7 D cls0 (fun q => s.heap.size ≤ q) h' (LV b x mm o I) (68 + 418 * (j + 1)) (26254 + 5335 * (j + 1)) Q 732 []) : J p l e room_1 s m #[Value.ref b] below meth c 7 D cls0 (fun q => s.heap.size ≤ q) h (LV b x mm o I) (68 + 418 * j) (26254 + 5335 * j) Q 286 [] := by
  obtain ⟨X, V, hbl, hL, Z, hfl, hr, hlk⟩ := C
  have hbA : ¬ (fun q => s.heap.size ≤ q) b := Nat.not_le.mpr hbl
  obtain ⟨hX, hM, mS, ad, f, P, CIx, RM⟩ := LIh
  have hj : j < 512 := by omega
  obtain ⟨r, hX2, m2, ad2, e1, C2, e2⟩ := cr_walk CIx RM (xs (I + 1))
  simp only at e1 e2
  refine J_aload_n (pc := 286) X 1 dw_286 rfl ?_
  refine J_arg (pc := 287) X V hbl hbA hL 1 (by decide) (by omega) 0 4 rfl rfl dw_287 dw_288 dw_290 dw_291 dw_292 ?_
  refine J_callVG (pc := 293) (As := [.int (xs (I + 1))]) (rest := []) (o := some (.int r)) X P.1 hc_LT CIx.is (c_LT_walk l D K FU e1) (cwV_of (nA := 1) X.fix (k_of k_w_LT_walk 0 rfl) (k_of k_w_LT_walk 1 rfl) (k_of k_w_LT_walk 2 rfl) (k_of k_w_LT_walk 3 rfl) (k_of k_w_LT_walk 4 rfl) ⟨rfl, rfl, rfl⟩ (by decide +kernel) ⟨Nat.le_of_ble_eq_true rfl, Nat.le_of_ble_eq_true rfl⟩) dw_293 rfl rfl (Nat.le_of_ble_eq_true rfl) (by rw [rmc]; omega) (by rw [rms]; omega) (fun h2 jn le => ?_)
  have P2 := P.mid jn
  obtain ⟨hM2, f1, R2⟩ := e2 h2.1
  refine J_aload_n (pc := 296) X 2 dw_296 rfl ?_
  refine J_arg (pc := 297) X V hbl hbA hL 1 (by decide) (by omega) 0 4 rfl rfl dw_297 dw_298 dw_300 dw_301 dw_302 ?_
  refine J_callVG (pc := 303) (As := [.int (xs (I + 1))]) (rest := [.int r]) (o := some (.int r)) X P2.2.1 hc_Mo (rIs (h := (h2.1, hM.2)) (s := mS) RM) (c_Mo_walk l D K FU f1) (cwV_of (nA := 1) X.fix (k_of k_w_Mo_walk 0 rfl) (k_of k_w_Mo_walk 1 rfl) (k_of k_w_Mo_walk 2 rfl) (k_of k_w_Mo_walk 3 rfl) (k_of k_w_Mo_walk 4 rfl) ⟨rfl, rfl, rfl⟩ (by decide +kernel) ⟨Nat.le_of_ble_eq_true rfl, Nat.le_of_ble_eq_true rfl⟩) dw_303 rfl rfl (Nat.le_of_ble_eq_true rfl) (by rw [rmc]; omega) (by rw [rms]; omega) (fun h3 jn3 le3 => ?_)
  have P3 := P2.fin jn3
  have hb : hX2.1 ≤ h3.1 := by rw [jn3.1, ← jn.1]; exact le3
  refine J_icmp_eq (pc := 306) (tgt := 732) X dw_306 (by decide) (fun _ => ?_) (fun q => absurd rfl q)
  refine J_wid (by omega) (by omega) (next h3 ⟨_, _, _, _, _, P3, C2.bump hb, R2⟩)
set_option maxRecDepth 100000 in
theorem k_w_LT_broken : [Cond.methodLink "LicenceTextsLaw" 53 y_LT_broken, .instanceMethod y_LT_broken, .selects "LicenceTexts" y_LT_broken y_LT_broken, .initialized "LicenceTexts", .code y_LT_broken prog_1_method_9_code 4 (some .int)].all (fun w => decide (w ∈ lw_tbl) && goodWord w) = true := by decide +kernel
set_option maxRecDepth 100000 in
theorem k_w_Mo_broken : [Cond.methodLink "LicenceTextsLaw" 57 y_Mo_broken, .instanceMethod y_Mo_broken, .selects "LicenceTextsModel" y_Mo_broken y_Mo_broken, .initialized "LicenceTextsModel", .code y_Mo_broken prog_14_method_32_code 4 (some .int)].all (fun w => decide (w ∈ lw_tbl) && goodWord w) = true := by decide +kernel
set_option maxRecDepth 100000 in
set_option maxHeartbeats 4000000 in
theorem lc_broken {p : Program} {l : Launch} {e : Env} {s : State} {m : MethodId} {below : List Frame} {meth : Method} {c : Code} {b L : Nat} {xs : Nat → Int32} {D : va_G} {K : (Nat → Nat) × (Nat → Nat)} {x mm o j I : Nat} {h : hH} {Q : State → Prop} (C : LCx p l s m meth c b L xs D K) (hI : I = 5 * j) (hlt : I + 5 ≤ L) (LIh : LI x mm o h j) (next : ∀ h', LI x mm o h' (j + 1) → J p l e room_1 s m #[Value.ref b] below meth c 7 D cls0 (fun q => s.heap.size ≤ q) h' (LV b x mm o I) (68 + 418 * (j + 1)) (26254 + 5335 * (j + 1)) Q 732 []) : J p l e room_1 s m #[Value.ref b] below meth c 7 D cls0 (fun q => s.heap.size ≤ q) h (LV b x mm o I) (68 + 418 * j) (26254 + 5335 * j) Q 311 [] := by
  obtain ⟨X, V, hbl, hL, Z, hfl, hr, hlk⟩ := C
  have hbA : ¬ (fun q => s.heap.size ≤ q) b := Nat.not_le.mpr hbl
  obtain ⟨hX, hM, mS, ad, f, P, CIx, RM⟩ := LIh
  have hj : j < 512 := by omega
  obtain ⟨r, hX2, m2, ad2, e1, C2, e2⟩ := cr_broken CIx RM (xs (I + 1)) (xs (I + 2))
  simp only at e1 e2
  refine J_aload_n (pc := 311) X 1 dw_311 rfl ?_
  refine J_arg (pc := 312) X V hbl hbA hL 1 (by decide) (by omega) 0 4 rfl rfl dw_312 dw_313 dw_315 dw_316 dw_317 ?_
  refine J_arg (pc := 318) X V hbl hbA hL 2 (by decide) (by omega) 0 4 rfl rfl dw_318 dw_319 dw_321 dw_322 dw_323 ?_
  refine J_callVG (pc := 324) (As := [.int (xs (I + 1)), .int (xs (I + 2))]) (rest := []) (o := some (.int r)) X P.1 hc_LT CIx.is (c_LT_broken l D K FU e1) (cwV_of (nA := 2) X.fix (k_of k_w_LT_broken 0 rfl) (k_of k_w_LT_broken 1 rfl) (k_of k_w_LT_broken 2 rfl) (k_of k_w_LT_broken 3 rfl) (k_of k_w_LT_broken 4 rfl) ⟨rfl, rfl, rfl⟩ (by decide +kernel) ⟨Nat.le_of_ble_eq_true rfl, Nat.le_of_ble_eq_true rfl⟩) dw_324 rfl rfl (Nat.le_of_ble_eq_true rfl) (by rw [rmc]; omega) (by rw [rms]; omega) (fun h2 jn le => ?_)
  have P2 := P.mid jn
  obtain ⟨hM2, f1, R2⟩ := e2 h2.1
  refine J_aload_n (pc := 327) X 2 dw_327 rfl ?_
  refine J_arg (pc := 328) X V hbl hbA hL 1 (by decide) (by omega) 0 4 rfl rfl dw_328 dw_329 dw_331 dw_332 dw_333 ?_
  refine J_arg (pc := 334) X V hbl hbA hL 2 (by decide) (by omega) 0 4 rfl rfl dw_334 dw_335 dw_337 dw_338 dw_339 ?_
  refine J_callVG (pc := 340) (As := [.int (xs (I + 1)), .int (xs (I + 2))]) (rest := [.int r]) (o := some (.int r)) X P2.2.1 hc_Mo (rIs (h := (h2.1, hM.2)) (s := mS) RM) (c_Mo_broken l D K FU f1) (cwV_of (nA := 2) X.fix (k_of k_w_Mo_broken 0 rfl) (k_of k_w_Mo_broken 1 rfl) (k_of k_w_Mo_broken 2 rfl) (k_of k_w_Mo_broken 3 rfl) (k_of k_w_Mo_broken 4 rfl) ⟨rfl, rfl, rfl⟩ (by decide +kernel) ⟨Nat.le_of_ble_eq_true rfl, Nat.le_of_ble_eq_true rfl⟩) dw_340 rfl rfl (Nat.le_of_ble_eq_true rfl) (by rw [rmc]; omega) (by rw [rms]; omega) (fun h3 jn3 le3 => ?_)
  have P3 := P2.fin jn3
  have hb : hX2.1 ≤ h3.1 := by rw [jn3.1, ← jn.1]; exact le3
  refine J_icmp_eq (pc := 343) (tgt := 732) X dw_343 (by decide) (fun _ => ?_) (fun q => absurd rfl q)
  refine J_wid (by omega) (by omega) (next h3 ⟨_, _, _, _, _, P3, C2.bump hb, R2⟩)
set_option maxRecDepth 100000 in
theorem k_w_LT_open : [Cond.methodLink "LicenceTextsLaw" 58 y_LT_open, .instanceMethod y_LT_open, .selects "LicenceTexts" y_LT_open y_LT_open, .initialized "LicenceTexts", .code y_LT_open prog_1_method_10_code 4 (some .int)].all (fun w => decide (w ∈ lw_tbl) && goodWord w) = true := by decide +kernel
set_option maxRecDepth 100000 in
theorem k_w_Mo_open : [Cond.methodLink "LicenceTextsLaw" 61 y_Mo_open, .instanceMethod y_Mo_open, .selects "LicenceTextsModel" y_Mo_open y_Mo_open, .initialized "LicenceTextsModel", .code y_Mo_open prog_14_method_33_code 4 (some .int)].all (fun w => decide (w ∈ lw_tbl) && goodWord w) = true := by decide +kernel
set_option maxRecDepth 100000 in
set_option maxHeartbeats 4000000 in
theorem lc_open {p : Program} {l : Launch} {e : Env} {s : State} {m : MethodId} {below : List Frame} {meth : Method} {c : Code} {b L : Nat} {xs : Nat → Int32} {D : va_G} {K : (Nat → Nat) × (Nat → Nat)} {x mm o j I : Nat} {h : hH} {Q : State → Prop} (C : LCx p l s m meth c b L xs D K) (hI : I = 5 * j) (hlt : I + 5 ≤ L) (LIh : LI x mm o h j) (next : ∀ h', LI x mm o h' (j + 1) → J p l e room_1 s m #[Value.ref b] below meth c 7 D cls0 (fun q => s.heap.size ≤ q) h' (LV b x mm o I) (68 + 418 * (j + 1)) (26254 + 5335 * (j + 1)) Q 732 []) : J p l e room_1 s m #[Value.ref b] below meth c 7 D cls0 (fun q => s.heap.size ≤ q) h (LV b x mm o I) (68 + 418 * j) (26254 + 5335 * j) Q 348 [] := by
  obtain ⟨X, V, hbl, hL, Z, hfl, hr, hlk⟩ := C
  have hbA : ¬ (fun q => s.heap.size ≤ q) b := Nat.not_le.mpr hbl
  obtain ⟨hX, hM, mS, ad, f, P, CIx, RM⟩ := LIh
  have hj : j < 512 := by omega
  obtain ⟨r, hX2, m2, ad2, e1, C2, e2⟩ := cr_open CIx RM (xs (I + 1)) (xs (I + 2))
  simp only at e1 e2
  refine J_aload_n (pc := 348) X 1 dw_348 rfl ?_
  refine J_arg (pc := 349) X V hbl hbA hL 1 (by decide) (by omega) 0 4 rfl rfl dw_349 dw_350 dw_352 dw_353 dw_354 ?_
  refine J_arg (pc := 355) X V hbl hbA hL 2 (by decide) (by omega) 0 4 rfl rfl dw_355 dw_356 dw_358 dw_359 dw_360 ?_
  refine J_callVG (pc := 361) (As := [.int (xs (I + 1)), .int (xs (I + 2))]) (rest := []) (o := some (.int r)) X P.1 hc_LT CIx.is (c_LT_open l D K FU e1) (cwV_of (nA := 2) X.fix (k_of k_w_LT_open 0 rfl) (k_of k_w_LT_open 1 rfl) (k_of k_w_LT_open 2 rfl) (k_of k_w_LT_open 3 rfl) (k_of k_w_LT_open 4 rfl) ⟨rfl, rfl, rfl⟩ (by decide +kernel) ⟨Nat.le_of_ble_eq_true rfl, Nat.le_of_ble_eq_true rfl⟩) dw_361 rfl rfl (Nat.le_of_ble_eq_true rfl) (by rw [rmc]; omega) (by rw [rms]; omega) (fun h2 jn le => ?_)
  have P2 := P.mid jn
  obtain ⟨hM2, f1, R2⟩ := e2 h2.1
  refine J_aload_n (pc := 364) X 2 dw_364 rfl ?_
  refine J_arg (pc := 365) X V hbl hbA hL 1 (by decide) (by omega) 0 4 rfl rfl dw_365 dw_366 dw_368 dw_369 dw_370 ?_
  refine J_arg (pc := 371) X V hbl hbA hL 2 (by decide) (by omega) 0 4 rfl rfl dw_371 dw_372 dw_374 dw_375 dw_376 ?_
  refine J_callVG (pc := 377) (As := [.int (xs (I + 1)), .int (xs (I + 2))]) (rest := [.int r]) (o := some (.int r)) X P2.2.1 hc_Mo (rIs (h := (h2.1, hM.2)) (s := mS) RM) (c_Mo_open l D K FU f1) (cwV_of (nA := 2) X.fix (k_of k_w_Mo_open 0 rfl) (k_of k_w_Mo_open 1 rfl) (k_of k_w_Mo_open 2 rfl) (k_of k_w_Mo_open 3 rfl) (k_of k_w_Mo_open 4 rfl) ⟨rfl, rfl, rfl⟩ (by decide +kernel) ⟨Nat.le_of_ble_eq_true rfl, Nat.le_of_ble_eq_true rfl⟩) dw_377 rfl rfl (Nat.le_of_ble_eq_true rfl) (by rw [rmc]; omega) (by rw [rms]; omega) (fun h3 jn3 le3 => ?_)
  have P3 := P2.fin jn3
  have hb : hX2.1 ≤ h3.1 := by rw [jn3.1, ← jn.1]; exact le3
  refine J_icmp_eq (pc := 380) (tgt := 732) X dw_380 (by decide) (fun _ => ?_) (fun q => absurd rfl q)
  refine J_wid (by omega) (by omega) (next h3 ⟨_, _, _, _, _, P3, C2.bump hb, R2⟩)
set_option maxRecDepth 100000 in
theorem k_w_LT_explain : [Cond.methodLink "LicenceTextsLaw" 62 y_LT_explain, .instanceMethod y_LT_explain, .selects "LicenceTexts" y_LT_explain y_LT_explain, .initialized "LicenceTexts", .code y_LT_explain prog_1_method_11_code 2 (some .int)].all (fun w => decide (w ∈ lw_tbl) && goodWord w) = true := by decide +kernel
set_option maxRecDepth 100000 in
theorem k_w_Mo_explain : [Cond.methodLink "LicenceTextsLaw" 65 y_Mo_explain, .instanceMethod y_Mo_explain, .selects "LicenceTextsModel" y_Mo_explain y_Mo_explain, .initialized "LicenceTextsModel", .code y_Mo_explain prog_14_method_34_code 2 (some .int)].all (fun w => decide (w ∈ lw_tbl) && goodWord w) = true := by decide +kernel
set_option maxRecDepth 100000 in
set_option maxHeartbeats 4000000 in
theorem lc_explain {p : Program} {l : Launch} {e : Env} {s : State} {m : MethodId} {below : List Frame} {meth : Method} {c : Code} {b L : Nat} {xs : Nat → Int32} {D : va_G} {K : (Nat → Nat) × (Nat → Nat)} {x mm o j I : Nat} {h : hH} {Q : State → Prop} (C : LCx p l s m meth c b L xs D K) (hI : I = 5 * j) (hlt : I + 5 ≤ L) (LIh : LI x mm o h j) (next : ∀ h', LI x mm o h' (j + 1) → J p l e room_1 s m #[Value.ref b] below meth c 7 D cls0 (fun q => s.heap.size ≤ q) h' (LV b x mm o I) (68 + 418 * (j + 1)) (26254 + 5335 * (j + 1)) Q 732 []) : J p l e room_1 s m #[Value.ref b] below meth c 7 D cls0 (fun q => s.heap.size ≤ q) h (LV b x mm o I) (68 + 418 * j) (26254 + 5335 * j) Q 385 [] := by
  obtain ⟨X, V, hbl, hL, Z, hfl, hr, hlk⟩ := C
  have hbA : ¬ (fun q => s.heap.size ≤ q) b := Nat.not_le.mpr hbl
  obtain ⟨hX, hM, mS, ad, f, P, CIx, RM⟩ := LIh
  have hj : j < 512 := by omega
  obtain ⟨r, hX2, m2, ad2, e1, C2, e2⟩ := cr_explain CIx RM (xs (I + 1))
  simp only at e1 e2
  refine J_aload_n (pc := 385) X 1 dw_385 rfl ?_
  refine J_arg (pc := 386) X V hbl hbA hL 1 (by decide) (by omega) 0 4 rfl rfl dw_386 dw_387 dw_389 dw_390 dw_391 ?_
  refine J_callVG (pc := 392) (As := [.int (xs (I + 1))]) (rest := []) (o := some (.int r)) X P.1 hc_LT CIx.is (c_LT_explain l D K FU e1) (cwV_of (nA := 1) X.fix (k_of k_w_LT_explain 0 rfl) (k_of k_w_LT_explain 1 rfl) (k_of k_w_LT_explain 2 rfl) (k_of k_w_LT_explain 3 rfl) (k_of k_w_LT_explain 4 rfl) ⟨rfl, rfl, rfl⟩ (by decide +kernel) ⟨Nat.le_of_ble_eq_true rfl, Nat.le_of_ble_eq_true rfl⟩) dw_392 rfl rfl (Nat.le_of_ble_eq_true rfl) (by rw [rmc]; omega) (by rw [rms]; omega) (fun h2 jn le => ?_)
  have P2 := P.mid jn
  obtain ⟨hM2, f1, R2⟩ := e2 h2.1
  refine J_aload_n (pc := 395) X 2 dw_395 rfl ?_
  refine J_arg (pc := 396) X V hbl hbA hL 1 (by decide) (by omega) 0 4 rfl rfl dw_396 dw_397 dw_399 dw_400 dw_401 ?_
  refine J_callVG (pc := 402) (As := [.int (xs (I + 1))]) (rest := [.int r]) (o := some (.int r)) X P2.2.1 hc_Mo (rIs (h := (h2.1, hM.2)) (s := mS) RM) (c_Mo_explain l D K FU f1) (cwV_of (nA := 1) X.fix (k_of k_w_Mo_explain 0 rfl) (k_of k_w_Mo_explain 1 rfl) (k_of k_w_Mo_explain 2 rfl) (k_of k_w_Mo_explain 3 rfl) (k_of k_w_Mo_explain 4 rfl) ⟨rfl, rfl, rfl⟩ (by decide +kernel) ⟨Nat.le_of_ble_eq_true rfl, Nat.le_of_ble_eq_true rfl⟩) dw_402 rfl rfl (Nat.le_of_ble_eq_true rfl) (by rw [rmc]; omega) (by rw [rms]; omega) (fun h3 jn3 le3 => ?_)
  have P3 := P2.fin jn3
  have hb : hX2.1 ≤ h3.1 := by rw [jn3.1, ← jn.1]; exact le3
  refine J_icmp_eq (pc := 405) (tgt := 732) X dw_405 (by decide) (fun _ => ?_) (fun q => absurd rfl q)
  refine J_wid (by omega) (by omega) (next h3 ⟨_, _, _, _, _, P3, C2.bump hb, R2⟩)
set_option maxRecDepth 100000 in
theorem k_w_LT_allowed : [Cond.methodLink "LicenceTextsLaw" 75 y_LT_allowed, .instanceMethod y_LT_allowed, .selects "LicenceTexts" y_LT_allowed y_LT_allowed, .initialized "LicenceTexts", .code y_LT_allowed prog_1_method_13_code 9 (some .int)].all (fun w => decide (w ∈ lw_tbl) && goodWord w) = true := by decide +kernel
set_option maxRecDepth 100000 in
theorem k_w_Mo_allowed : [Cond.methodLink "LicenceTextsLaw" 78 y_Mo_allowed, .instanceMethod y_Mo_allowed, .selects "LicenceTextsModel" y_Mo_allowed y_Mo_allowed, .initialized "LicenceTextsModel", .code y_Mo_allowed prog_14_method_36_code 9 (some .int)].all (fun w => decide (w ∈ lw_tbl) && goodWord w) = true := by decide +kernel
set_option maxRecDepth 100000 in
set_option maxHeartbeats 4000000 in
theorem lc_allowed {p : Program} {l : Launch} {e : Env} {s : State} {m : MethodId} {below : List Frame} {meth : Method} {c : Code} {b L : Nat} {xs : Nat → Int32} {D : va_G} {K : (Nat → Nat) × (Nat → Nat)} {x mm o j I : Nat} {h : hH} {Q : State → Prop} (C : LCx p l s m meth c b L xs D K) (hI : I = 5 * j) (hlt : I + 5 ≤ L) (LIh : LI x mm o h j) (next : ∀ h', LI x mm o h' (j + 1) → J p l e room_1 s m #[Value.ref b] below meth c 7 D cls0 (fun q => s.heap.size ≤ q) h' (LV b x mm o I) (68 + 418 * (j + 1)) (26254 + 5335 * (j + 1)) Q 732 []) : J p l e room_1 s m #[Value.ref b] below meth c 7 D cls0 (fun q => s.heap.size ≤ q) h (LV b x mm o I) (68 + 418 * j) (26254 + 5335 * j) Q 490 [] := by
  obtain ⟨X, V, hbl, hL, Z, hfl, hr, hlk⟩ := C
  have hbA : ¬ (fun q => s.heap.size ≤ q) b := Nat.not_le.mpr hbl
  obtain ⟨hX, hM, mS, ad, f, P, CIx, RM⟩ := LIh
  have hj : j < 512 := by omega
  obtain ⟨r, hX2, m2, ad2, e1, C2, e2⟩ := cr_allowed CIx RM (xs (I + 1)) (xs (I + 2)) (xs (I + 3))
  simp only at e1 e2
  refine J_aload_n (pc := 490) X 1 dw_490 rfl ?_
  refine J_arg (pc := 491) X V hbl hbA hL 1 (by decide) (by omega) 0 4 rfl rfl dw_491 dw_492 dw_494 dw_495 dw_496 ?_
  refine J_arg (pc := 497) X V hbl hbA hL 2 (by decide) (by omega) 0 4 rfl rfl dw_497 dw_498 dw_500 dw_501 dw_502 ?_
  refine J_arg (pc := 503) X V hbl hbA hL 3 (by decide) (by omega) 0 4 rfl rfl dw_503 dw_504 dw_506 dw_507 dw_508 ?_
  refine J_callVG (pc := 509) (As := [.int (xs (I + 1)), .int (xs (I + 2)), .int (xs (I + 3))]) (rest := []) (o := some (.int r)) X P.1 hc_LT CIx.is (c_LT_allowed l D K FU e1) (cwV_of (nA := 3) X.fix (k_of k_w_LT_allowed 0 rfl) (k_of k_w_LT_allowed 1 rfl) (k_of k_w_LT_allowed 2 rfl) (k_of k_w_LT_allowed 3 rfl) (k_of k_w_LT_allowed 4 rfl) ⟨rfl, rfl, rfl⟩ (by decide +kernel) ⟨Nat.le_of_ble_eq_true rfl, Nat.le_of_ble_eq_true rfl⟩) dw_509 rfl rfl (Nat.le_of_ble_eq_true rfl) (by rw [rmc]; omega) (by rw [rms]; omega) (fun h2 jn le => ?_)
  have P2 := P.mid jn
  obtain ⟨hM2, f1, R2⟩ := e2 h2.1
  refine J_aload_n (pc := 512) X 2 dw_512 rfl ?_
  refine J_arg (pc := 513) X V hbl hbA hL 1 (by decide) (by omega) 0 4 rfl rfl dw_513 dw_514 dw_516 dw_517 dw_518 ?_
  refine J_arg (pc := 519) X V hbl hbA hL 2 (by decide) (by omega) 0 4 rfl rfl dw_519 dw_520 dw_522 dw_523 dw_524 ?_
  refine J_arg (pc := 525) X V hbl hbA hL 3 (by decide) (by omega) 0 4 rfl rfl dw_525 dw_526 dw_528 dw_529 dw_530 ?_
  refine J_callVG (pc := 531) (As := [.int (xs (I + 1)), .int (xs (I + 2)), .int (xs (I + 3))]) (rest := [.int r]) (o := some (.int r)) X P2.2.1 hc_Mo (rIs (h := (h2.1, hM.2)) (s := mS) RM) (c_Mo_allowed l D K FU f1) (cwV_of (nA := 3) X.fix (k_of k_w_Mo_allowed 0 rfl) (k_of k_w_Mo_allowed 1 rfl) (k_of k_w_Mo_allowed 2 rfl) (k_of k_w_Mo_allowed 3 rfl) (k_of k_w_Mo_allowed 4 rfl) ⟨rfl, rfl, rfl⟩ (by decide +kernel) ⟨Nat.le_of_ble_eq_true rfl, Nat.le_of_ble_eq_true rfl⟩) dw_531 rfl rfl (Nat.le_of_ble_eq_true rfl) (by rw [rmc]; omega) (by rw [rms]; omega) (fun h3 jn3 le3 => ?_)
  have P3 := P2.fin jn3
  have hb : hX2.1 ≤ h3.1 := by rw [jn3.1, ← jn.1]; exact le3
  refine J_icmp_eq (pc := 534) (tgt := 732) X dw_534 (by decide) (fun _ => ?_) (fun q => absurd rfl q)
  refine J_wid (by omega) (by omega) (next h3 ⟨_, _, _, _, _, P3, C2.bump hb, R2⟩)
set_option maxRecDepth 100000 in
theorem k_w_LT_write : [Cond.methodLink "LicenceTextsLaw" 79 y_LT_write, .instanceMethod y_LT_write, .selects "LicenceTexts" y_LT_write y_LT_write, .initialized "LicenceTexts", .code y_LT_write prog_1_method_14_code 5 (some .int)].all (fun w => decide (w ∈ lw_tbl) && goodWord w) = true := by decide +kernel
set_option maxRecDepth 100000 in
theorem k_w_Mo_write : [Cond.methodLink "LicenceTextsLaw" 82 y_Mo_write, .instanceMethod y_Mo_write, .selects "LicenceTextsModel" y_Mo_write y_Mo_write, .initialized "LicenceTextsModel", .code y_Mo_write prog_14_method_37_code 6 (some .int)].all (fun w => decide (w ∈ lw_tbl) && goodWord w) = true := by decide +kernel
set_option maxRecDepth 100000 in
set_option maxHeartbeats 4000000 in
theorem lc_write {p : Program} {l : Launch} {e : Env} {s : State} {m : MethodId} {below : List Frame} {meth : Method} {c : Code} {b L : Nat} {xs : Nat → Int32} {D : va_G} {K : (Nat → Nat) × (Nat → Nat)} {x mm o j I : Nat} {h : hH} {Q : State → Prop} (C : LCx p l s m meth c b L xs D K) (hI : I = 5 * j) (hlt : I + 5 ≤ L) (LIh : LI x mm o h j) (next : ∀ h', LI x mm o h' (j + 1) → J p l e room_1 s m #[Value.ref b] below meth c 7 D cls0 (fun q => s.heap.size ≤ q) h' (LV b x mm o I) (68 + 418 * (j + 1)) (26254 + 5335 * (j + 1)) Q 732 []) : J p l e room_1 s m #[Value.ref b] below meth c 7 D cls0 (fun q => s.heap.size ≤ q) h (LV b x mm o I) (68 + 418 * j) (26254 + 5335 * j) Q 539 [] := by
  obtain ⟨X, V, hbl, hL, Z, hfl, hr, hlk⟩ := C
  have hbA : ¬ (fun q => s.heap.size ≤ q) b := Nat.not_le.mpr hbl
  obtain ⟨hX, hM, mS, ad, f, P, CIx, RM⟩ := LIh
  have hj : j < 512 := by omega
  obtain ⟨r, hX2, m2, ad2, e1, C2, e2⟩ := cr_write CIx RM (xs (I + 1)) (xs (I + 2))
  simp only at e1 e2
  refine J_aload_n (pc := 539) X 1 dw_539 rfl ?_
  refine J_arg (pc := 540) X V hbl hbA hL 1 (by decide) (by omega) 0 4 rfl rfl dw_540 dw_541 dw_543 dw_544 dw_545 ?_
  refine J_arg (pc := 546) X V hbl hbA hL 2 (by decide) (by omega) 0 4 rfl rfl dw_546 dw_547 dw_549 dw_550 dw_551 ?_
  refine J_callVG (pc := 552) (As := [.int (xs (I + 1)), .int (xs (I + 2))]) (rest := []) (o := some (.int r)) X P.1 hc_LT CIx.is (c_LT_write l D K FU e1) (cwV_of (nA := 2) X.fix (k_of k_w_LT_write 0 rfl) (k_of k_w_LT_write 1 rfl) (k_of k_w_LT_write 2 rfl) (k_of k_w_LT_write 3 rfl) (k_of k_w_LT_write 4 rfl) ⟨rfl, rfl, rfl⟩ (by decide +kernel) ⟨Nat.le_of_ble_eq_true rfl, Nat.le_of_ble_eq_true rfl⟩) dw_552 rfl rfl (Nat.le_of_ble_eq_true rfl) (by rw [rmc]; omega) (by rw [rms]; omega) (fun h2 jn le => ?_)
  have P2 := P.mid jn
  obtain ⟨hM2, f1, R2⟩ := e2 h2.1
  refine J_aload_n (pc := 555) X 2 dw_555 rfl ?_
  refine J_arg (pc := 556) X V hbl hbA hL 1 (by decide) (by omega) 0 4 rfl rfl dw_556 dw_557 dw_559 dw_560 dw_561 ?_
  refine J_arg (pc := 562) X V hbl hbA hL 2 (by decide) (by omega) 0 4 rfl rfl dw_562 dw_563 dw_565 dw_566 dw_567 ?_
  refine J_callVG (pc := 568) (As := [.int (xs (I + 1)), .int (xs (I + 2))]) (rest := [.int r]) (o := some (.int r)) X P2.2.1 hc_Mo (rIs (h := (h2.1, hM.2)) (s := mS) RM) (c_Mo_write l D K FU f1) (cwV_of (nA := 2) X.fix (k_of k_w_Mo_write 0 rfl) (k_of k_w_Mo_write 1 rfl) (k_of k_w_Mo_write 2 rfl) (k_of k_w_Mo_write 3 rfl) (k_of k_w_Mo_write 4 rfl) ⟨rfl, rfl, rfl⟩ (by decide +kernel) ⟨Nat.le_of_ble_eq_true rfl, Nat.le_of_ble_eq_true rfl⟩) dw_568 rfl rfl (Nat.le_of_ble_eq_true rfl) (by rw [rmc]; omega) (by rw [rms]; omega) (fun h3 jn3 le3 => ?_)
  have P3 := P2.fin jn3
  have hb : hX2.1 ≤ h3.1 := by rw [jn3.1, ← jn.1]; exact le3
  refine J_icmp_eq (pc := 571) (tgt := 732) X dw_571 (by decide) (fun _ => ?_) (fun q => absurd rfl q)
  refine J_wid (by omega) (by omega) (next h3 ⟨_, _, _, _, _, P3, C2.bump hb, R2⟩)
set_option maxRecDepth 100000 in
theorem k_w_LT_written : [Cond.methodLink "LicenceTextsLaw" 83 y_LT_written, .instanceMethod y_LT_written, .selects "LicenceTexts" y_LT_written y_LT_written, .initialized "LicenceTexts", .code y_LT_written prog_1_method_15_code 2 (some .int)].all (fun w => decide (w ∈ lw_tbl) && goodWord w) = true := by decide +kernel
set_option maxRecDepth 100000 in
theorem k_w_Mo_written : [Cond.methodLink "LicenceTextsLaw" 86 y_Mo_written, .instanceMethod y_Mo_written, .selects "LicenceTextsModel" y_Mo_written y_Mo_written, .initialized "LicenceTextsModel", .code y_Mo_written prog_14_method_38_code 2 (some .int)].all (fun w => decide (w ∈ lw_tbl) && goodWord w) = true := by decide +kernel
set_option maxRecDepth 100000 in
set_option maxHeartbeats 4000000 in
theorem lc_written {p : Program} {l : Launch} {e : Env} {s : State} {m : MethodId} {below : List Frame} {meth : Method} {c : Code} {b L : Nat} {xs : Nat → Int32} {D : va_G} {K : (Nat → Nat) × (Nat → Nat)} {x mm o j I : Nat} {h : hH} {Q : State → Prop} (C : LCx p l s m meth c b L xs D K) (hI : I = 5 * j) (hlt : I + 5 ≤ L) (LIh : LI x mm o h j) (next : ∀ h', LI x mm o h' (j + 1) → J p l e room_1 s m #[Value.ref b] below meth c 7 D cls0 (fun q => s.heap.size ≤ q) h' (LV b x mm o I) (68 + 418 * (j + 1)) (26254 + 5335 * (j + 1)) Q 732 []) : J p l e room_1 s m #[Value.ref b] below meth c 7 D cls0 (fun q => s.heap.size ≤ q) h (LV b x mm o I) (68 + 418 * j) (26254 + 5335 * j) Q 576 [] := by
  obtain ⟨X, V, hbl, hL, Z, hfl, hr, hlk⟩ := C
  have hbA : ¬ (fun q => s.heap.size ≤ q) b := Nat.not_le.mpr hbl
  obtain ⟨hX, hM, mS, ad, f, P, CIx, RM⟩ := LIh
  have hj : j < 512 := by omega
  obtain ⟨r, hX2, m2, ad2, e1, C2, e2⟩ := cr_written CIx RM (xs (I + 1))
  simp only at e1 e2
  refine J_aload_n (pc := 576) X 1 dw_576 rfl ?_
  refine J_arg (pc := 577) X V hbl hbA hL 1 (by decide) (by omega) 0 4 rfl rfl dw_577 dw_578 dw_580 dw_581 dw_582 ?_
  refine J_callVG (pc := 583) (As := [.int (xs (I + 1))]) (rest := []) (o := some (.int r)) X P.1 hc_LT CIx.is (c_LT_written l D K FU e1) (cwV_of (nA := 1) X.fix (k_of k_w_LT_written 0 rfl) (k_of k_w_LT_written 1 rfl) (k_of k_w_LT_written 2 rfl) (k_of k_w_LT_written 3 rfl) (k_of k_w_LT_written 4 rfl) ⟨rfl, rfl, rfl⟩ (by decide +kernel) ⟨Nat.le_of_ble_eq_true rfl, Nat.le_of_ble_eq_true rfl⟩) dw_583 rfl rfl (Nat.le_of_ble_eq_true rfl) (by rw [rmc]; omega) (by rw [rms]; omega) (fun h2 jn le => ?_)
  have P2 := P.mid jn
  obtain ⟨hM2, f1, R2⟩ := e2 h2.1
  refine J_aload_n (pc := 586) X 2 dw_586 rfl ?_
  refine J_arg (pc := 587) X V hbl hbA hL 1 (by decide) (by omega) 0 4 rfl rfl dw_587 dw_588 dw_590 dw_591 dw_592 ?_
  refine J_callVG (pc := 593) (As := [.int (xs (I + 1))]) (rest := [.int r]) (o := some (.int r)) X P2.2.1 hc_Mo (rIs (h := (h2.1, hM.2)) (s := mS) RM) (c_Mo_written l D K FU f1) (cwV_of (nA := 1) X.fix (k_of k_w_Mo_written 0 rfl) (k_of k_w_Mo_written 1 rfl) (k_of k_w_Mo_written 2 rfl) (k_of k_w_Mo_written 3 rfl) (k_of k_w_Mo_written 4 rfl) ⟨rfl, rfl, rfl⟩ (by decide +kernel) ⟨Nat.le_of_ble_eq_true rfl, Nat.le_of_ble_eq_true rfl⟩) dw_593 rfl rfl (Nat.le_of_ble_eq_true rfl) (by rw [rmc]; omega) (by rw [rms]; omega) (fun h3 jn3 le3 => ?_)
  have P3 := P2.fin jn3
  have hb : hX2.1 ≤ h3.1 := by rw [jn3.1, ← jn.1]; exact le3
  refine J_icmp_eq (pc := 596) (tgt := 732) X dw_596 (by decide) (fun _ => ?_) (fun q => absurd rfl q)
  refine J_wid (by omega) (by omega) (next h3 ⟨_, _, _, _, _, P3, C2.bump hb, R2⟩)
set_option maxRecDepth 100000 in
theorem k_w_LT_haul : [Cond.methodLink "LicenceTextsLaw" 87 y_LT_haul, .instanceMethod y_LT_haul, .selects "LicenceTexts" y_LT_haul y_LT_haul, .initialized "LicenceTexts", .code y_LT_haul prog_1_method_16_code 5 (some .boolean)].all (fun w => decide (w ∈ lw_tbl) && goodWord w) = true := by decide +kernel
set_option maxRecDepth 100000 in
theorem k_w_Mo_haul : [Cond.methodLink "LicenceTextsLaw" 91 y_Mo_haul, .instanceMethod y_Mo_haul, .selects "LicenceTextsModel" y_Mo_haul y_Mo_haul, .initialized "LicenceTextsModel", .code y_Mo_haul prog_14_method_39_code 5 (some .boolean)].all (fun w => decide (w ∈ lw_tbl) && goodWord w) = true := by decide +kernel
set_option maxRecDepth 100000 in
set_option maxHeartbeats 4000000 in
theorem lc_haul {p : Program} {l : Launch} {e : Env} {s : State} {m : MethodId} {below : List Frame} {meth : Method} {c : Code} {b L : Nat} {xs : Nat → Int32} {D : va_G} {K : (Nat → Nat) × (Nat → Nat)} {x mm o j I : Nat} {h : hH} {Q : State → Prop} (C : LCx p l s m meth c b L xs D K) (hI : I = 5 * j) (hlt : I + 5 ≤ L) (LIh : LI x mm o h j) (next : ∀ h', LI x mm o h' (j + 1) → J p l e room_1 s m #[Value.ref b] below meth c 7 D cls0 (fun q => s.heap.size ≤ q) h' (LV b x mm o I) (68 + 418 * (j + 1)) (26254 + 5335 * (j + 1)) Q 732 []) : J p l e room_1 s m #[Value.ref b] below meth c 7 D cls0 (fun q => s.heap.size ≤ q) h (LV b x mm o I) (68 + 418 * j) (26254 + 5335 * j) Q 601 [] := by
  obtain ⟨X, V, hbl, hL, Z, hfl, hr, hlk⟩ := C
  have hbA : ¬ (fun q => s.heap.size ≤ q) b := Nat.not_le.mpr hbl
  obtain ⟨hX, hM, mS, ad, f, P, CIx, RM⟩ := LIh
  have hj : j < 512 := by omega
  obtain ⟨r, hX2, m2, ad2, e1, C2, e2⟩ := cr_haul CIx RM (xs (I + 1)) (xs (I + 2)) (lng (xs (I + 3)) (xs (I + 4)))
  simp only at e1 e2
  refine J_aload_n (pc := 601) X 1 dw_601 rfl ?_
  refine J_arg (pc := 602) X V hbl hbA hL 1 (by decide) (by omega) 0 4 rfl rfl dw_602 dw_603 dw_605 dw_606 dw_607 ?_
  refine J_arg (pc := 608) X V hbl hbA hL 2 (by decide) (by omega) 0 4 rfl rfl dw_608 dw_609 dw_611 dw_612 dw_613 ?_
  refine J_arg (pc := 614) X V hbl hbA hL 3 (by decide) (by omega) 0 4 rfl rfl dw_614 dw_615 dw_617 dw_618 dw_619 ?_
  refine J_i2l (pc := 620) X dw_620 ?_
  refine J_bipush (pc := 621) (v := 32) X dw_621 (by decide) ?_
  refine J_lshl (pc := 623) X dw_623 ?_
  refine J_arg (pc := 624) X V hbl hbA hL 4 (by decide) (by omega) 0 4 rfl rfl dw_624 dw_625 dw_627 dw_628 dw_629 ?_
  refine J_i2l (pc := 630) X dw_630 ?_
  refine J_ldc2 (pc := 631) X (k_of k_lng 0 rfl) dw_631 ?_
  refine J_land (pc := 634) X dw_634 ?_
  refine J_lor (pc := 635) X dw_635 ?_
  refine J_callVG (pc := 636) (As := [.int (xs (I + 1)), .int (xs (I + 2)), .long (lng (xs (I + 3)) (xs (I + 4)))]) (rest := []) (o := some (.int r)) X P.1 hc_LT CIx.is (c_LT_haul l D K FU e1) (cwV_of (nA := 3) X.fix (k_of k_w_LT_haul 0 rfl) (k_of k_w_LT_haul 1 rfl) (k_of k_w_LT_haul 2 rfl) (k_of k_w_LT_haul 3 rfl) (k_of k_w_LT_haul 4 rfl) ⟨rfl, rfl, rfl⟩ (by decide +kernel) ⟨Nat.le_of_ble_eq_true rfl, Nat.le_of_ble_eq_true rfl⟩) dw_636 rfl rfl (Nat.le_of_ble_eq_true rfl) (by rw [rmc]; omega) (by rw [rms]; omega) (fun h2 jn le => ?_)
  have P2 := P.mid jn
  obtain ⟨hM2, f1, R2⟩ := e2 h2.1
  refine J_aload_n (pc := 639) X 2 dw_639 rfl ?_
  refine J_arg (pc := 640) X V hbl hbA hL 1 (by decide) (by omega) 0 4 rfl rfl dw_640 dw_641 dw_643 dw_644 dw_645 ?_
  refine J_arg (pc := 646) X V hbl hbA hL 2 (by decide) (by omega) 0 4 rfl rfl dw_646 dw_647 dw_649 dw_650 dw_651 ?_
  refine J_arg (pc := 652) X V hbl hbA hL 3 (by decide) (by omega) 0 4 rfl rfl dw_652 dw_653 dw_655 dw_656 dw_657 ?_
  refine J_i2l (pc := 658) X dw_658 ?_
  refine J_bipush (pc := 659) (v := 32) X dw_659 (by decide) ?_
  refine J_lshl (pc := 661) X dw_661 ?_
  refine J_arg (pc := 662) X V hbl hbA hL 4 (by decide) (by omega) 0 4 rfl rfl dw_662 dw_663 dw_665 dw_666 dw_667 ?_
  refine J_i2l (pc := 668) X dw_668 ?_
  refine J_ldc2 (pc := 669) X (k_of k_lng 0 rfl) dw_669 ?_
  refine J_land (pc := 672) X dw_672 ?_
  refine J_lor (pc := 673) X dw_673 ?_
  refine J_callVG (pc := 674) (As := [.int (xs (I + 1)), .int (xs (I + 2)), .long (lng (xs (I + 3)) (xs (I + 4)))]) (rest := [.int r]) (o := some (.int r)) X P2.2.1 hc_Mo (rIs (h := (h2.1, hM.2)) (s := mS) RM) (c_Mo_haul l D K FU f1) (cwV_of (nA := 3) X.fix (k_of k_w_Mo_haul 0 rfl) (k_of k_w_Mo_haul 1 rfl) (k_of k_w_Mo_haul 2 rfl) (k_of k_w_Mo_haul 3 rfl) (k_of k_w_Mo_haul 4 rfl) ⟨rfl, rfl, rfl⟩ (by decide +kernel) ⟨Nat.le_of_ble_eq_true rfl, Nat.le_of_ble_eq_true rfl⟩) dw_674 rfl rfl (Nat.le_of_ble_eq_true rfl) (by rw [rmc]; omega) (by rw [rms]; omega) (fun h3 jn3 le3 => ?_)
  have P3 := P2.fin jn3
  have hb : hX2.1 ≤ h3.1 := by rw [jn3.1, ← jn.1]; exact le3
  refine J_icmp_eq (pc := 677) (tgt := 732) X dw_677 (by decide) (fun _ => ?_) (fun q => absurd rfl q)
  refine J_wid (by omega) (by omega) (next h3 ⟨_, _, _, _, _, P3, C2.bump hb, R2⟩)
set_option maxRecDepth 100000 in
theorem k_w_LT_byCatch : [Cond.methodLink "LicenceTextsLaw" 92 y_LT_byCatch, .instanceMethod y_LT_byCatch, .selects "LicenceTexts" y_LT_byCatch y_LT_byCatch, .initialized "LicenceTexts", .code y_LT_byCatch prog_1_method_17_code 4 (some .long)].all (fun w => decide (w ∈ lw_tbl) && goodWord w) = true := by decide +kernel
set_option maxRecDepth 100000 in
theorem k_w_Mo_byCatch : [Cond.methodLink "LicenceTextsLaw" 96 y_Mo_byCatch, .instanceMethod y_Mo_byCatch, .selects "LicenceTextsModel" y_Mo_byCatch y_Mo_byCatch, .initialized "LicenceTextsModel", .code y_Mo_byCatch prog_14_method_40_code 12 (some .long)].all (fun w => decide (w ∈ lw_tbl) && goodWord w) = true := by decide +kernel
set_option maxRecDepth 100000 in
set_option maxHeartbeats 4000000 in
theorem lc_byCatch {p : Program} {l : Launch} {e : Env} {s : State} {m : MethodId} {below : List Frame} {meth : Method} {c : Code} {b L : Nat} {xs : Nat → Int32} {D : va_G} {K : (Nat → Nat) × (Nat → Nat)} {x mm o j I : Nat} {h : hH} {Q : State → Prop} (C : LCx p l s m meth c b L xs D K) (hI : I = 5 * j) (hlt : I + 5 ≤ L) (LIh : LI x mm o h j) (next : ∀ h', LI x mm o h' (j + 1) → J p l e room_1 s m #[Value.ref b] below meth c 7 D cls0 (fun q => s.heap.size ≤ q) h' (LV b x mm o I) (68 + 418 * (j + 1)) (26254 + 5335 * (j + 1)) Q 732 []) : J p l e room_1 s m #[Value.ref b] below meth c 7 D cls0 (fun q => s.heap.size ≤ q) h (LV b x mm o I) (68 + 418 * j) (26254 + 5335 * j) Q 682 [] := by
  obtain ⟨X, V, hbl, hL, Z, hfl, hr, hlk⟩ := C
  have hbA : ¬ (fun q => s.heap.size ≤ q) b := Nat.not_le.mpr hbl
  obtain ⟨hX, hM, mS, ad, f, P, CIx, RM⟩ := LIh
  have hj : j < 512 := by omega
  obtain ⟨r, hX2, m2, ad2, e1, C2, e2⟩ := cr_byCatch CIx RM (by omega) (xs (I + 1)) (xs (I + 2)) (xs (I + 3))
  simp only at e1 e2
  refine J_aload_n (pc := 682) X 1 dw_682 rfl ?_
  refine J_arg (pc := 683) X V hbl hbA hL 1 (by decide) (by omega) 0 4 rfl rfl dw_683 dw_684 dw_686 dw_687 dw_688 ?_
  refine J_arg (pc := 689) X V hbl hbA hL 2 (by decide) (by omega) 0 4 rfl rfl dw_689 dw_690 dw_692 dw_693 dw_694 ?_
  refine J_arg (pc := 695) X V hbl hbA hL 3 (by decide) (by omega) 0 4 rfl rfl dw_695 dw_696 dw_698 dw_699 dw_700 ?_
  refine J_callVG (pc := 701) (As := [.int (xs (I + 1)), .int (xs (I + 2)), .int (xs (I + 3))]) (rest := []) (o := some (.long r)) X P.1 hc_LT CIx.is (c_LT_byCatch l D K FU e1) (cwV_of (nA := 3) X.fix (k_of k_w_LT_byCatch 0 rfl) (k_of k_w_LT_byCatch 1 rfl) (k_of k_w_LT_byCatch 2 rfl) (k_of k_w_LT_byCatch 3 rfl) (k_of k_w_LT_byCatch 4 rfl) ⟨rfl, rfl, rfl⟩ (by decide +kernel) ⟨Nat.le_of_ble_eq_true rfl, Nat.le_of_ble_eq_true rfl⟩) dw_701 rfl rfl (Nat.le_of_ble_eq_true rfl) (by rw [rmc]; omega) (by rw [rms]; omega) (fun h2 jn le => ?_)
  have P2 := P.mid jn
  obtain ⟨hM2, f1, R2⟩ := e2 h2.1
  refine J_aload_n (pc := 704) X 2 dw_704 rfl ?_
  refine J_arg (pc := 705) X V hbl hbA hL 1 (by decide) (by omega) 0 4 rfl rfl dw_705 dw_706 dw_708 dw_709 dw_710 ?_
  refine J_arg (pc := 711) X V hbl hbA hL 2 (by decide) (by omega) 0 4 rfl rfl dw_711 dw_712 dw_714 dw_715 dw_716 ?_
  refine J_arg (pc := 717) X V hbl hbA hL 3 (by decide) (by omega) 0 4 rfl rfl dw_717 dw_718 dw_720 dw_721 dw_722 ?_
  refine J_callVG (pc := 723) (As := [.int (xs (I + 1)), .int (xs (I + 2)), .int (xs (I + 3))]) (rest := [.long r]) (o := some (.long r)) X P2.2.1 hc_Mo (rIs (h := (h2.1, hM.2)) (s := mS) RM) (c_Mo_byCatch l D K FU f1) (cwV_of (nA := 3) X.fix (k_of k_w_Mo_byCatch 0 rfl) (k_of k_w_Mo_byCatch 1 rfl) (k_of k_w_Mo_byCatch 2 rfl) (k_of k_w_Mo_byCatch 3 rfl) (k_of k_w_Mo_byCatch 4 rfl) ⟨rfl, rfl, rfl⟩ (by decide +kernel) ⟨Nat.le_of_ble_eq_true rfl, Nat.le_of_ble_eq_true rfl⟩) dw_723 rfl rfl (Nat.le_of_ble_eq_true rfl) (by rw [rmc]; omega) (by rw [rms]; omega) (fun h3 jn3 le3 => ?_)
  have P3 := P2.fin jn3
  have hb : hX2.1 ≤ h3.1 := by rw [jn3.1, ← jn.1]; exact le3
  refine J_lcmp (pc := 726) X dw_726 ?_
  refine J_if_eq (pc := 727) (tgt := 732) X dw_727 (by decide) (fun _ => ?_) (fun q => absurd (cmp_self r) q)
  refine J_wid (by omega) (by omega) (next h3 ⟨_, _, _, _, _, P3, C2.bump hb, R2⟩)
