/-! THE LAW's CASE OF table -/
theorem Pt2.tab {hX hM h h2 g2 : hH} {o : Nat} {f f2 : Nat → Int64} (P : Pt2 hX hM h o f) (jn : Jn h (h.1, fun q => if q = o then h.2 o else hX.2 q) g2 h2) (h1 : ∀ q, q ≠ o → g2.2 q = hX.2 q) (ho : g2.2 o = some (.inr (.long, 1, .inr (.inl f2)))) : Pt2 (h2.1, hX.2) (h2.1, hM.2) h2 o f2 := by
  obtain ⟨p1, p2, p3, p4, p5, p6⟩ := P
  refine ⟨⟨rfl, fun q x hx => ?_⟩, ⟨rfl, fun q x hx => ?_⟩, p3, p4, p5, jn.2.1 o _ ho⟩
  · have hq : q ≠ o := fun e => by
      have hx : hX.2 q = some x := hx
      rw [e, p4] at hx; cases hx
    exact jn.2.1 q x (by rw [h1 q hq]; exact hx)
  · have hx : hM.2 q = some x := hx
    have hq : q ≠ o := fun e => by rw [e, p5] at hx; cases hx
    have hn : hX.2 q = none := by
      cases hq2 : hX.2 q with
      | none => rfl
      | some y =>
        have := p3 q (by rw [hq2]; exact fun z => by cases z)
        rw [this] at hx; cases hx
    exact (jn.2.2.1 q x (p2.2 q x hx) (by simp [hq, hn])).1
set_option maxRecDepth 100000 in
theorem k_w_Mo_table : [Cond.methodLink "LicenceTextsLaw" 71 y_Mo_table, .instanceMethod y_Mo_table, .selects "LicenceTextsModel" y_Mo_table y_Mo_table, .initialized "LicenceTextsModel", .code y_Mo_table prog_14_method_35_code 6 (some .int)].all (fun w => decide (w ∈ lw_tbl) && goodWord w) = true := by decide +kernel
set_option maxRecDepth 100000 in
theorem k_w_Mo_thrown : [Cond.methodLink "LicenceTextsLaw" 72 y_Mo_thrown, .instanceMethod y_Mo_thrown, .selects "LicenceTextsModel" y_Mo_thrown y_Mo_thrown, .initialized "LicenceTextsModel", .code y_Mo_thrown prog_14_method_2_code 1 (some .int)].all (fun w => decide (w ∈ lw_tbl) && goodWord w) = true := by decide +kernel
section LAWTAB
variable {p : Program} {l : Launch} {e : Env} {s : State} {m : MethodId} {below : List Frame} {meth : Method} {c : Code} {b L : Nat} {xs : Nat → Int32} {D : va_G} {K : (Nat → Nat) × (Nat → Nat)} {x mm o j I : Nat} {h : hH} {Q : State → Prop}
set_option maxRecDepth 100000 in
set_option maxHeartbeats 4000000 in
/-- behind the law's table: the reference's, and what it threw -/
theorem lt_behind {hX hM : hH} {f : Nat → Int64} {ad : Nat → Nat} {mS m2 : MS} {kq bb : Int32} (C : LCx p l s m meth c b L xs D K) (hI : I = 5 * j) (hlt : I + 5 ≤ L) (P : Pt2 hX (h.1, hM.2) h o f) (RM : RepM ad mm hM mS) (C2 : CI x (j + 1) hX m2) (e2 : ∀ z, ∃ hM2, M_Mo_table FU (z, hM.2) mm (xs (I + 1)) (xs (I + 2)) (xs (I + 3)) = some (bb, hM2) ∧ RepM ad mm hM2 m2) (hk : m2.1 0 = kq) (h10 : kq = 1 ∨ (kq = 0 ∧ f 0 = bb.toInt64))
    (next : ∀ h', LI x mm o h' (j + 1) → J p l e room_1 s m #[Value.ref b] below meth c 7 D cls0 (fun q => s.heap.size ≤ q) h' (LV b x mm o I) (68 + 418 * (j + 1)) (26254 + 5335 * (j + 1)) Q 732 []) : J p l e room_1 s m #[Value.ref b] below meth c 7 D cls0 (fun q => s.heap.size ≤ q) h (LV b x mm o I) (68 + 418 * j + 1) (26254 + 5335 * j + 6) Q 433 [.int kq] := by
  obtain ⟨X, V, hbl, hL, Z, hfl, hr, hlk⟩ := C
  have hbA : ¬ (fun q => s.heap.size ≤ q) b := Nat.not_le.mpr hbl
  have hj : j < 512 := by omega
  refine J_istore (pc := 433) (lv' := [(5, .int kq), (0, .ref b), (1, .ref x), (2, .ref mm), (3, .ref o), (4, .int (nI I))]) X dw_433 (by decide) rfl ?_
  obtain ⟨hM2, f1, R2⟩ := e2 h.1
  refine J_aload_n (pc := 435) X 3 dw_435 rfl ?_
  refine J_arg (pc := 436) X V hbl hbA hL 1 (by decide) (by omega) 1 5 rfl rfl dw_436 dw_437 dw_439 dw_440 dw_441 ?_
  refine J_arg (pc := 442) X V hbl hbA hL 2 (by decide) (by omega) 1 5 rfl rfl dw_442 dw_443 dw_445 dw_446 dw_447 ?_
  refine J_arg (pc := 448) X V hbl hbA hL 3 (by decide) (by omega) 1 5 rfl rfl dw_448 dw_449 dw_451 dw_452 dw_453 ?_
  refine J_callVG (pc := 454) (As := [.int (xs (I + 1)), .int (xs (I + 2)), .int (xs (I + 3))]) (rest := []) (o := some (.int bb)) X P.2.1 hc_Mo (rIs (h := (h.1, hM.2)) (s := mS) RM) (c_Mo_table l D K FU f1) (cwV_of (nA := 3) X.fix (k_of k_w_Mo_table 0 rfl) (k_of k_w_Mo_table 1 rfl) (k_of k_w_Mo_table 2 rfl) (k_of k_w_Mo_table 3 rfl) (k_of k_w_Mo_table 4 rfl) ⟨rfl, rfl, rfl⟩ (by decide +kernel) ⟨Nat.le_of_ble_eq_true rfl, Nat.le_of_ble_eq_true rfl⟩) dw_454 rfl rfl (Nat.le_of_ble_eq_true rfl) (by rw [rmc]; omega) (by rw [rms]; omega) (fun h3 jn3 le3 => ?_)
  have P3 := P.fin jn3
  have hb3 : hX.1 ≤ h3.1 := by rw [jn3.1, P.1.1]; exact le3
  refine J_istore (pc := 457) (lv' := [(6, .int bb), (5, .int kq), (0, .ref b), (1, .ref x), (2, .ref mm), (3, .ref o), (4, .int (nI I))]) X dw_457 (by decide) rfl ?_
  refine J_aload_n (pc := 459) X 4 dw_459 rfl ?_
  obtain ⟨hM4, f4, R4⟩ := n_Mo_thrown (F := FU) R2 rfl
  refine J_callVG (pc := 460) (As := []) (rest := []) (o := some (.int (m2.1 0))) X P3.2.1 hc_Mo (rIs R2) (c_Mo_thrown l D K FU f4) (cwV_of (nA := 0) X.fix (k_of k_w_Mo_thrown 0 rfl) (k_of k_w_Mo_thrown 1 rfl) (k_of k_w_Mo_thrown 2 rfl) (k_of k_w_Mo_thrown 3 rfl) (k_of k_w_Mo_thrown 4 rfl) ⟨rfl, rfl, rfl⟩ (by decide +kernel) ⟨Nat.le_of_ble_eq_true rfl, Nat.le_of_ble_eq_true rfl⟩) dw_460 rfl rfl (Nat.le_of_ble_eq_true rfl) (by rw [rmc]; omega) (by rw [rms]; omega) (fun h4 jn4 le4 => ?_)
  have P4 := P3.fin jn4
  have hb4 : hX.1 ≤ h4.1 := by rw [jn4.1]; exact Nat.le_trans hb3 (by rw [← P3.2.1.1]; exact le4)
  have fin : J p l e room_1 s m #[Value.ref b] below meth c 7 D cls0 (fun q => s.heap.size ≤ q) h4 [(6, .int bb), (5, .int kq), (0, .ref b), (1, .ref x), (2, .ref mm), (3, .ref o), (4, .int (nI I))] (68 + 418 * j + 1 + 0 + 0) (26254 + 5335 * j + 6 + 0 + 0) Q 487 [] := by
    refine J_goto (pc := 487) (tgt := 732) X dw_487 (by decide) ?_
    refine J_sub [2, 3, 4, 5, 6] rfl ?_
    exact J_wid (by omega) (by omega) (next h4 ⟨_, _, _, _, _, P4, C2.bump hb4, R4⟩)
  refine J_iload (pc := 463) X 1 dw_463 rfl ?_
  refine J_icmp_eq (pc := 465) (tgt := 470) X dw_465 (by decide) (fun _ => ?_) (fun q => absurd hk q)
  refine J_iload (pc := 470) X 1 dw_470 rfl ?_
  refine J_if_ne (pc := 472) (tgt := 487) X dw_472 (by decide) (fun _ => fin) (fun q => ?_)
  have hf : f 0 = bb.toInt64 := by
    rcases h10 with h9 | h9
    · rw [h9] at q; exact absurd q (by decide)
    · exact h9.2
  refine J_aload_n (pc := 475) X 5 dw_475 rfl ?_
  refine J_iconst (pc := 476) (v := 0) X dw_476 (by decide) ?_
  have hld : hLdL h4 o 0 = some bb.toInt64 := by
    have h0 : ¬ ((0 : Int32) < 0 ∨ 1 ≤ (0 : Int32).toNatClampNeg) := by decide
    have hc0 : (0 : Int32).toNatClampNeg = 0 := by decide
    have ho := P4.2.2.2.2.2
    simp only [hLdL, hArr, ho, if_true, Option.bind_some, h0, if_false]
    rw [hc0, hf]
  refine J_lald (pc := 477) X dw_477 rfl hld ?_
  refine J_iload (pc := 478) X 0 dw_478 rfl ?_
  refine J_i2l (pc := 480) X dw_480 ?_
  refine J_lcmp (pc := 481) X dw_481 ?_
  refine J_if_eq (pc := 482) (tgt := 487) X dw_482 (by decide) (fun _ => fin) (fun q => absurd (cmp_self _) q)
set_option maxRecDepth 100000 in
set_option maxHeartbeats 4000000 in
theorem lc_table (C : LCx p l s m meth c b L xs D K) (hI : I = 5 * j) (hlt : I + 5 ≤ L) (LIh : LI x mm o h j) (next : ∀ h', LI x mm o h' (j + 1) → J p l e room_1 s m #[Value.ref b] below meth c 7 D cls0 (fun q => s.heap.size ≤ q) h' (LV b x mm o I) (68 + 418 * (j + 1)) (26254 + 5335 * (j + 1)) Q 732 []) : J p l e room_1 s m #[Value.ref b] below meth c 7 D cls0 (fun q => s.heap.size ≤ q) h (LV b x mm o I) (68 + 418 * j) (26254 + 5335 * j) Q 410 [] := by
  obtain ⟨X, V, hbl, hL, Z, hfl, hr, hlk⟩ := id C
  have hbA : ¬ (fun q => s.heap.size ≤ q) b := Nat.not_le.mpr hbl
  obtain ⟨hX, hM, mS, ad, f, P, CIx, RM⟩ := LIh
  have hj : j < 512 := by omega
  obtain ⟨r, bb, m2, N, C2, e2, hres⟩ := cr_table CIx RM (xs (I + 1)) (xs (I + 2)) (xs (I + 3))
  obtain ⟨p1, p2, p3, p4, p5, p6⟩ := id P
  obtain ⟨g, hg⟩ : ∃ g : hH, g = (h.1, fun q => if q = o then h.2 o else hX.2 q) := ⟨_, rfl⟩
  have hsg : Sub g h := by
    rw [hg]
    refine ⟨rfl, fun q y hy => ?_⟩
    simp only at hy
    by_cases hq : q = o
    · rw [if_pos hq] at hy; rw [hq]; exact hy
    · rw [if_neg hq] at hy; exact p1.2 q y hy
  have hsX : Sub hX g := by
    rw [hg]
    refine ⟨p1.1, fun q y hy => ?_⟩
    have hq : q ≠ o := fun e9 => by rw [e9, p4] at hy; cases hy
    simp only [hq, if_false]
    exact hy
  have hgo : g.2 o = some (.inr (.long, 1, .inr (.inl f))) := by rw [hg]; simp; exact p6
  refine J_aload_n (pc := 410) X 1 dw_410 rfl ?_
  refine J_arg (pc := 411) X V hbl hbA hL 1 (by decide) (by omega) 0 4 rfl rfl dw_411 dw_412 dw_414 dw_415 dw_416 ?_
  refine J_arg (pc := 417) X V hbl hbA hL 2 (by decide) (by omega) 0 4 rfl rfl dw_417 dw_418 dw_420 dw_421 dw_422 ?_
  refine J_arg (pc := 423) X V hbl hbA hL 3 (by decide) (by omega) 0 4 rfl rfl dw_423 dw_424 dw_426 dw_427 dw_428 ?_
  refine J_aload_n (pc := 429) X 3 dw_429 rfl ?_
  rcases hres with ⟨hr1, hm⟩ | ⟨hr1, hm, hbr⟩
  · subst hr1
    have cT := c_Lw_table_t (l := l) (D := D) (K := K) (o := o) hfl hsX CIx.is N
    rw [hJ_up hsX] at cT
    refine J_callSWG (pc := 430) (As := [.ref x, .int (xs (I + 1)), .int (xs (I + 2)), .int (xs (I + 3)), .ref o]) (rest := []) (o := some (.int 1)) (nA := 5) X Z hsg cT (k_of k_Ls 0 rfl) (k_of k_Ls 1 rfl) (k_of k_Ls 2 rfl) (k_of k_Ls 3 rfl) ⟨rfl, rfl⟩ (by decide +kernel) ⟨Nat.le_of_ble_eq_true rfl, Nat.le_of_ble_eq_true rfl⟩ dw_430 rfl rfl (Nat.le_of_ble_eq_true rfl) (by rw [rmc]; omega) (by rw [rms]; omega) (fun h2 jn le => ?_)
    have hle : hX.1 ≤ h2.1 := by rw [jn.1, p1.1]; rw [hg] at le ⊢; exact le
    have P2 : Pt2 (h2.1, hX.2) (h2.1, hM.2) h2 o f := P.tab (g2 := (g.1 + 1, g.2)) (by rw [← hg]; exact jn) (fun q hq => by rw [hg]; simp [hq]) hgo
    exact lt_behind C hI hlt P2 RM (C2.bump hle) e2 hm (Or.inl rfl) next
  · have cR := c_Lw_table_r (l := l) (D := D) (K := K) (o := o) hsX CIx.is N hr1 hgo p4
    rw [hJ_self hsX] at cR
    refine J_callSWG (pc := 430) (As := [.ref x, .int (xs (I + 1)), .int (xs (I + 2)), .int (xs (I + 3)), .ref o]) (rest := []) (o := some (.int 0)) (nA := 5) X Z hsg cR (k_of k_Ls 0 rfl) (k_of k_Ls 1 rfl) (k_of k_Ls 2 rfl) (k_of k_Ls 3 rfl) ⟨rfl, rfl⟩ (by decide +kernel) ⟨Nat.le_of_ble_eq_true rfl, Nat.le_of_ble_eq_true rfl⟩ dw_430 rfl rfl (Nat.le_of_ble_eq_true rfl) (by rw [rmc]; omega) (by rw [rms]; omega) (fun h2 jn le => ?_)
    have hle : hX.1 ≤ h2.1 := by rw [jn.1, p1.1]; rw [hg] at le ⊢; exact le
    have P2 : Pt2 (h2.1, hX.2) (h2.1, hM.2) h2 o (vp_updL f 0 r.toInt64) := P.tab (by rw [← hg]; exact jn) (fun q hq => by rw [hg]; simp [hSet, hq]) (by simp [hSet])
    exact lt_behind C hI hlt P2 RM (C2.bump hle) e2 hm (Or.inr ⟨rfl, by simp [vp_updL, hbr]⟩) next
end LAWTAB
