/-! THE WHOLE -/
theorem J_bd {p : Program} {l : Launch} {e : Env} {R : Room} {s : State} {m : MethodId} {args : Array Value} {below : List Frame} {meth : Method} {c : Code} {nL : Nat} {D : va_G} {cl : List vw_C} {A : Nat → Prop} {h : hH} {lv : List (Nat × Value)} {k n pc : Nat} {Q : State → Prop} {st : List Value} (kk : (∀ q x, h.2 q = some x → q < h.1) → J p l e R s m args below meth c nL D cl A h lv k n Q pc st) : J p l e R s m args below meth c nL D cl A h lv k n Q pc st := by
  intro H locs ls a1 b1 d1
  refine kk (fun q x hx => ?_) H locs ls a1 b1 d1
  have := (a1.2 q x hx).2.lt
  rw [a1.1] at this
  exact this
abbrev fsM : List Value := [.int 0, .null, .int 0, .int 0, .null, .null, .null, .null, .null, .null, .null, .null, .null, .null, .null, .null, .null, .null, .null, .null, .null, .int 0, .int 0, .int 0, .int 0, .null, .null, .null, .null, .int 0, .null, .null, .null, .int 0, .int 0, .null, .null, .int 0, .null]
theorem fsM_eq : fsM = fl fM0 := by decide
set_option maxRecDepth 100000 in
theorem k_start : [Cond.classLink "LicenceTextsLaw" 8 "LicenceTexts", .instantiable "LicenceTexts" 10, .initialized "LicenceTexts", .methodLink "LicenceTextsLaw" 15 y_LT_init, .instanceMethod y_LT_init, .code y_LT_init prog_1_method_1_code 1 none, .classLink "LicenceTextsLaw" 16 "LicenceTextsModel", .instantiable "LicenceTextsModel" 39, .initialized "LicenceTextsModel", .methodLink "LicenceTextsLaw" 18 y_Mo_init, .instanceMethod y_Mo_init, .code y_Mo_init prog_14_method_1_code 1 none].all (fun w => decide (w ∈ lw_tbl) && goodWord w) = true := by decide +kernel
/-- the class's constructor, from nothing -/
theorem ci_init (z : Nat) : ∃ h2, M_LT_init FU (hAdd (z, fun _ => none) (.inl (11, [.null, .int 0, .null, .null, .null, .null, .null, .null, .null, .null]))) z = some h2 ∧ CI z 0 h2 mZ := by
  obtain ⟨s0, hs0⟩ : ∃ s0 : XS, s0 = (fun _ => 0, fun _ => 0, fun _ _ => 0, fun _ _ => none, fun _ _ => 0, fun _ _ => 0, fun _ _ => none, z) := ⟨_, rfl⟩
  have z0 : xZ s0 = z := by rw [hs0]
  have R0 : RepX (z, fun _ => none) s0 := ⟨z0.symm, fun a ha => absurd (by rw [hs0]) ha⟩
  obtain ⟨h1, e1, R1, -⟩ := xw_new R0 (ci := 11) (fs := [.null, .int 0, .null, .null, .null, .null, .null, .null, .null, .null]) (by decide)
  obtain ⟨s2, e2, I2⟩ := lt_new (F := FU) (s := s0)
  obtain ⟨h2, f2, R2⟩ := x_LT_init R1 e2
  cases e1
  rw [z0] at f2
  refine ⟨h2, f2, s2, _, _, _, _, _, _, _, R2, init_inv I2, ?_, Nat.zero_le _⟩
  show xZ s0 + offA 0 = z
  rw [z0]; rfl
set_option maxRecDepth 100000 in
set_option maxHeartbeats 4000000 in
theorem whole_start {p : Program} {e : Env} {s : State} {m : MethodId} {below : List Frame} {meth : Method} {c : Code} (l : Launch) (hfl : l.flags = flags0) {b L : Nat} {xs : Nat → Int32} (hL : L ≤ 2560) (C0 : lw_At p s m meth c b L xs) : W p l e room_1 s m #[Value.ref b] below meth c s.heap [] 0 0 (lw_Z below #[Value.ref b] s) (entryFrame m ([Value.ref b] : List Value).toArray 7) := by
  obtain ⟨hx, hb, hr, hml, hown, hts, hX, hbl, hlocks, hgv⟩ := id C0
  obtain ⟨D, K, hS, hZ⟩ := start_st hts hgv
  have X : hCx hG p m c code 7 s #[Value.ref b] T0 "LicenceTextsLaw" D cls0 K (fun q => s.heap.size ≤ q) := ⟨hx, hb, hml, hown, fun w hw => hts w (List.mem_filter.mp hw).1, hS, fun _ h => h⟩
  have C : LCx p l s m meth c b L xs D K := ⟨X, hX, hbl, hL, hZ, hfl, hr, hlocks⟩
  obtain ⟨sz, hsz⟩ : ∃ z, z = s.heap.size := ⟨_, rfl⟩
  obtain ⟨h2, i1, CI1⟩ := ci_init sz
  have main : J p l e room_1 s m #[Value.ref b] below meth c 7 D cls0 (fun q => s.heap.size ≤ q) (sz, fun _ => none) [(0, .ref b)] 0 0 (lw_Z below #[Value.ref b] s) 0 [] := by
    refine J_new (pc := 0) (fs := [.null, .int 0, .null, .null, .null, .null, .null, .null, .null, .null]) X hc_LT in_LT t_LT tk_LT (k_of k_start 0 rfl) (k_of k_start 1 rfl) (k_of k_start 2 rfl) dw_0 rfl df_LT (Nat.le_of_ble_eq_true rfl) (Nat.le_of_ble_eq_true rfl) ?_
    refine J_dup (pc := 3) X dw_3 rfl ?_
    refine J_callI (pc := 4) (As := []) (rest := [.ref sz]) (o := none) (h2 := h2) X rfl (c_LT_init l D K FU i1) (cwI_of (nA := 0) X.fix (k_of k_start 3 rfl) (k_of k_start 4 rfl) (k_of k_start 2 rfl) (k_of k_start 5 rfl) ⟨rfl, rfl, rfl⟩ (by decide +kernel) ⟨Nat.le_of_ble_eq_true rfl, Nat.le_of_ble_eq_true rfl⟩) dw_4 rfl rfl (Nat.le_of_ble_eq_true rfl) (Nat.le_of_ble_eq_true rfl) (Nat.le_of_ble_eq_true rfl) ?_
    refine J_bd (fun bd2 => ?_)
    refine J_astore_n (pc := 7) (lv' := [(1, .ref sz), (0, .ref b)]) X dw_7 rfl (by decide) rfl ?_
    refine J_new (pc := 8) (fs := fsM) X hc_Mo in_Mo t_Mo tk_Mo (k_of k_start 6 rfl) (k_of k_start 7 rfl) (k_of k_start 8 rfl) dw_8 rfl df_Mo (Nat.le_of_ble_eq_true rfl) (Nat.le_of_ble_eq_true rfl) ?_
    refine J_dup (pc := 11) X dw_11 rfl ?_
    obtain ⟨g, hg⟩ : ∃ g : hH, g = (h2.1 + 1, fun q => if q = h2.1 then some (.inl (12, fsM)) else none) := ⟨_, rfl⟩
    have hsg : Sub g (hAdd h2 (.inl (12, fsM))) := by
      rw [hg]
      refine ⟨rfl, fun q y hy => ?_⟩
      simp only at hy
      by_cases c9 : q = h2.1
      · rw [if_pos c9] at hy; rw [← hy]; simp [hAdd, c9]
      · rw [if_neg c9] at hy; cases hy
    obtain ⟨hM, ad, j1, RM, j3, j4⟩ := init_rep (F := FU) (h := g) (x0 := h2.1) (by rw [hg, ← fsM_eq]; simp) (by rw [hg]; exact Nat.lt_succ_self _)
    refine J_callIG (pc := 12) (As := []) (rest := [.ref h2.1]) (o := none) (g2 := hM) X hsg (c_Mo_init l D K FU j1) (cwI_of (nA := 0) X.fix (k_of k_start 9 rfl) (k_of k_start 10 rfl) (k_of k_start 8 rfl) (k_of k_start 11 rfl) ⟨rfl, rfl, rfl⟩ (by decide +kernel) ⟨Nat.le_of_ble_eq_true rfl, Nat.le_of_ble_eq_true rfl⟩) dw_12 rfl rfl (Nat.le_of_ble_eq_true rfl) (Nat.le_of_ble_eq_true rfl) (Nat.le_of_ble_eq_true rfl) (fun h4 jn le => ?_)
    refine J_bd (fun bd4 => ?_)
    refine J_astore_n (pc := 15) (lv' := [(2, .ref h2.1), (1, .ref sz), (0, .ref b)]) X dw_15 rfl (by decide) rfl ?_
    refine J_iconst (pc := 16) (v := 1) X dw_16 (by decide) ?_
    refine J_newa (pc := 17) (ty := .long) (N := 1) (a0 := (1, .inr (.inl (fun _ => 0)))) X rfl k_7 dw_17 (fun _ => rfl) (fun _ _ hq => hq) (by decide) (by decide) (by decide) (Nat.le_of_ble_eq_true rfl) (Nat.le_of_ble_eq_true rfl) ?_
    refine J_astore_n (pc := 19) (lv' := [(3, .ref h4.1), (2, .ref h2.1), (1, .ref sz), (0, .ref b)]) X dw_19 rfl (by decide) rfl ?_
    refine J_iconst (pc := 20) (v := 0) X dw_20 (by decide) ?_
    refine J_istore (pc := 21) (lv' := [(4, .int 0), (3, .ref h4.1), (2, .ref h2.1), (1, .ref sz), (0, .ref b)]) X dw_21 (by decide) rfl ?_
    refine J_sub [4, 3, 2, 1, 0] rfl ?_
    have hle : h2.1 ≤ h4.1 := by
      rw [jn.1]
      have : h2.1 ≤ g.1 := by rw [hg]; exact Nat.le_succ _
      exact Nat.le_trans this le
    have hX4 : ∀ q y, h2.2 q = some y → h4.2 q = some y ∧ hM.2 q = none := by
      intro q y hy
      have hq := bd2 q y hy
      have h9 : (hAdd h2 (.inl (12, fsM))).2 q = some y := by
        have : ¬ q = h2.1 := by omega
        simp [hAdd, this]; exact hy
      exact jn.2.2.1 q y h9 (by rw [hg]; simp; omega)
    have ho2 : h2.2 h4.1 = none := by
      cases hq : h2.2 h4.1 with
      | none => rfl
      | some y => have := bd2 _ _ hq; omega
    have hoM : hM.2 h4.1 = none := by
      cases hq : hM.2 h4.1 with
      | none => rfl
      | some y => have := bd4 _ _ (jn.2.1 _ _ hq); omega
    refine law_loop C (L + 1) 0 _ (by omega) (by omega) ⟨(h4.1 + 1, h2.2), (h4.1 + 1, hM.2), mZ, ad, fun _ => 0, ⟨⟨rfl, fun q y hy => ?_⟩, ⟨rfl, fun q y hy => ?_⟩, fun q hq => ?_, ho2, hoM, by simp [hAdd]⟩, CI1.bump (by omega), RM⟩
    · have h9 := (hX4 q y hy).1
      have := bd4 q y h9
      have c9 : ¬ q = h4.1 := by omega
      simp [hAdd, c9]; exact h9
    · have h9 := jn.2.1 q y hy
      have := bd4 q y h9
      have c9 : ¬ q = h4.1 := by omega
      simp [hAdd, c9]; exact h9
    · cases hq2 : h2.2 q with
      | none => exact absurd hq2 hq
      | some y => exact (hX4 q y hq2).2
  have hl := lv_entry [Value.ref b] (n := 7) (Nat.le_of_ble_eq_true rfl)
  rw [lg_entry_eq]
  exact main s.heap [] _ ⟨hsz.symm, fun a x hx => by cases hx⟩ va_S.rf hl
set_option maxHeartbeats 4000000 in
theorem lw_walk (l : Launch) (hfl : l.flags = flags0) (b : Addr) (xs : List Int32) : MetFree l x (headSpec (Jvm.Cond.code x code maxLocals ret :: tables_1) room_1) (lw_P b xs) (fun _ _ _ _ _ => True) lw_Q := by
  refine MetFree.of_bodyS (code := code) (maxLocals := maxLocals) (ret := ret) (by decide) ?_ ?_
  · intro args s m h hn
    obtain ⟨meth, c, h1, h2, h3, h4, h5, h6, -, -⟩ := Cond.code_spec hn (atoms_spec (ws := Jvm.Cond.code x code maxLocals ret :: tables_1) h _ List.mem_cons_self)
    exact ⟨meth, c, h1, h2, h3, h4, h5, h6⟩
  · intro p e s m args below meth c s₁ B hml0 hP _
    obtain ⟨rfl, hx, hbd, hgv⟩ := hP
    obtain ⟨scr, harrAt, hlist, hof, hsmall⟩ := hx
    obtain ⟨hcb, hkn, -, -⟩ := State.arrayAt?_spec harrAt
    have hown : s.vm.findClass R_law = some m.cls := findClass_of_methodNamed B.named
    have hts0 : ∀ c ∈ (Jvm.Cond.code x code maxLocals ret :: tables_1), c.before #[Value.ref b] s = true := atoms_spec (ws := Jvm.Cond.code x code maxLocals ret :: tables_1) B.pre
    have hts : ∀ w ∈ lw_tbl, w.before #[Value.ref b] s = true := k2_hts_sels lw_privs (fun w hw => hts0 w (List.mem_cons_of_mem _ hw)) lw_privs_ok
    have hml : c.maxLocals = 7 := B.maxLocals_eq (hts0 _ List.mem_cons_self)
    have X₀ : Stand p l e room_1 s m #[Value.ref b] below meth c s₁ [] 0 0 := Stand.of_body B
    have hh0 : s₁.heap = s.heap := by rw [B.state]; rfl
    have hsz : scr.slots.size = xs.length := by rw [← Array.length_toList, hlist, List.length_map]
    have hval : ∀ j : Nat, j < xs.length → scr.slots[j]? = some (.int (xs.getD j 0)) := fun j hj => by
      rw [← Array.getElem?_toList, hlist]
      simp [hj]
    have hbl : b < s.heap.size := (Array.getElem?_eq_some_iff.mp hcb).1
    have hX : va_X b xs.length (fun j => xs.getD j 0) s s.heap := ⟨scr, hcb, hof, hkn, hsz, hval⟩
    have K : W p l e room_1 s m #[Value.ref b] below meth c s₁.heap [] 0 0 (lw_Z below #[Value.ref b] s) (entryFrame m ([Value.ref b] : List Value).toArray 7) := by
      rw [hh0]
      exact whole_start l hfl hbd ⟨B.exec, B.bytes, B.returns, hml, hown, hts, hX, hbl, B.notSynchronized, hgv⟩
    obtain ⟨t, a1, o, b1, b2, b3⟩ := K s₁ rfl X₀
    exact ⟨t, o, a1, b1, b2, b3⟩
theorem lw_pre_spec {args : Array Value} {s : State} (h : (Jvm.Cond.and given_1 narrow_1).before args s = true) (hr : rest_1_c.before args s = true) : ∃ (b : Addr) (xs : List Int32), lw_P b xs args s := by
  have hs := flat_of_before _ h
  have hq := flat_of_before _ hr
  have hc : (Cond.count 1).before args s = true := hs _ (by decide +kernel)
  have harr : (Cond.arrayOf (.arg 0) .int).before args s = true := hs _ (by decide +kernel)
  have hle : (Cond.le (.length (.arg 0)) (.int 2560)).before args s = true := hs _ (by decide +kernel)
  have hlen : (Cond.isInt (.length (.arg 0))).before args s = true := hq _ (by decide +kernel)
  have hall : (Cond.all (.arg 0) (.isInt (.elem (.arg 0) (.index 0)))).before args s = true := hq _ (by decide +kernel)
  obtain ⟨b, xs, hb, hx⟩ := State.ints_of_pre rfl harr hlen hall
  have hsm : xs.length < 2 ^ 31 := hx.choose_spec.2.2.2
  have hev : (Term.length (.arg 0)).eval args s none [] s = some (.int xs.length.toInt32) := hx.length_eval hb
  have hv := Cond.le_ints hev (show (Term.int 2560).eval args s none [] s = some (.int 2560) from rfl)
  have hd : xs.length.toInt32 ≤ 2560 := by
    simpa [Cond.before, Cond.holds, hv] using hle
  have hN : xs.length ≤ 2560 := (Int32.ofNat_le_ofNat hsm (by decide)).mp (show Int32.ofNat xs.length ≤ Int32.ofNat 2560 from hd)
  exact ⟨b, xs, Cond.one_arg hc (show args[0]? = some (.ref b) from hb), hx, hN, h⟩
theorem lw_comes (l : Launch) (hfl : l.flags = flags0) : Comes l x (Jvm.Cond.code x code maxLocals ret :: tables_1) room_1 (fun tb e args s => Calls_1 tb e args s ∧ rest_1 tb e args s ∧ Pre_1 tb e args s)
    (fun _ _ args s o t => lw_Q args s o t) := by
  intro p e ha hc hk s m args below hf hfit hheap happ hpre
  obtain ⟨b, xs, hP⟩ := lw_pre_spec hpre.2.2 hpre.2.1
  obtain ⟨k, o, h1, h2, h3, hQ⟩ := lw_walk l hfl b xs p e ha hc hk s m args below hf ((Spec.applies_iff_loose hf).mp happ).1 hP trivial
  exact ⟨k, o, h1, h2, h3, hQ⟩
theorem lw_frame {s t : State} {o : Outcome} {args : Array Value} (h : Framed s o t [] 601024 7293034) :
    Framed s o t (fieldLocs frame_1_writes args s ++ arrayLocs frame_1_arrays args s ++ staticLocs frame_1_statics s) 601024 7293034 := h
theorem lw_limb (L : Cond) (hL : ∀ (args : Array Value) (s t : State), L.after args s (.returned (some (.int 1))) t = true) :
    ArmFor flags0 classFile x code maxLocals ret World_1 tables_1 room_1 Calls_1 rest_1 Pre_1
      (fun tb e a s o t => postC L tb e a s o t ∧ Framed s o t (fieldLocs frame_1_writes a s ++ arrayLocs frame_1_arrays a s ++ staticLocs frame_1_statics s) 601024 7293034) := by
  intro l hfl _ _ p e ha hc hk s m args below hf hfit hheap happ hpre
  obtain ⟨k, o, h1, h2, h3, rfl, hF⟩ := lw_comes l hfl p e ha hc hk s m args below hf hfit hheap happ hpre
  exact ⟨k, _, h1, h2, h3, hL args s _, lw_frame hF⟩
theorem i_vc : Claimed_1_1 ∧ Claimed_1_2 := ⟨lw_limb limb_1_1 (fun args s t => by simp [limb_1_1, Cond.after, Cond.holds, Cond.value]), lw_limb limb_1_2 (fun args s t => Cond.after_iff.mpr (by
  first | (rw [show limb_1_2 = Cond.eq .result (.int 1) from rfl, Cond.eq_ints (x := 1) (y := 1) rfl rfl]; simp; done) | (simp [limb_1_2, Cond.value, Term.eval]; done)))⟩
