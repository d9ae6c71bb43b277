/-! THE LAW's LOOP -/
theorem u15 (x : Int32) : ∃ u : Nat, u < 16 ∧ x &&& 15 = nI u := by
  refine ⟨(x &&& 15).toBitVec.toNat, ?_, ?_⟩
  · rw [Int32.toBitVec_and, BitVec.toNat_and]
    have h : (15 : Int32).toBitVec.toNat = 15 := by decide
    rw [h]
    have := @Nat.and_le_right x.toBitVec.toNat 15
    omega
  · apply Int32.toBitVec_inj.mp
    have : (nI (x &&& 15).toBitVec.toNat).toBitVec = BitVec.ofNat 32 (x &&& 15).toBitVec.toNat := rfl
    rw [this, BitVec.ofNat_toNat, BitVec.setWidth_eq]
section LAWLOOP
variable {p : Program} {l : Launch} {e : Env} {s : State} {m : MethodId} {below : List Frame} {meth : Method} {c : Code} {b L : Nat} {xs : Nat → Int32} {D : va_G} {K : (Nat → Nat) × (Nat → Nat)} {x mm o : Nat}
/-- at least five ints are left, or fewer -/
theorem five_left {I L : Nat} (hL : L ≤ 2560) (hI : I ≤ 2564) : ¬ (nI L - 5 < nI I) → I + 5 ≤ L := by
  intro h
  apply Classical.byContradiction
  intro q
  apply h
  by_cases c : L < 5
  · have : L = 0 ∨ L = 1 ∨ L = 2 ∨ L = 3 ∨ L = 4 := by omega
    have h0 : (0 : Int32) ≤ nI I := nI_pos' (by omega)
    have h1 : nI L - 5 < 0 := by
      rcases this with e | e | e | e | e <;> subst e <;> decide
    exact Int32.lt_of_lt_of_le h1 h0
  · obtain ⟨L2, rfl⟩ : ∃ q, L = q + 5 := ⟨L - 5, by omega⟩
    have e : nI (L2 + 5) - 5 = nI L2 := by
      rw [← nI_add]
      have : nI 5 = 5 := rfl
      rw [this, Int32.add_sub_cancel]
    rw [e]
    exact nI_lt (by omega) (by omega)
theorem J_lawret (C : LCx p l s m meth c b L xs D K) {h : hH} {lv : List (Nat × Value)} {k n : Nat} (hk : k ≤ 601024) (hn : n ≤ 7293034) : J p l e room_1 s m #[Value.ref b] below meth c 7 D cls0 (fun q => s.heap.size ≤ q) h lv k n (lw_Z below #[Value.ref b] s) 739 [.int 1] := by
  obtain ⟨X, V, hbl, hL, Z, hfl, hr, hlk⟩ := C
  intro H locs ls a1 b1 d1
  refine va_forget (fun q hq => b1.2.2 q hq) ?_
  refine W.widen hk hn ?_
  exact lw_ret X.1 X.2.1 hr hlk dw_739
set_option maxRecDepth 100000 in
set_option maxHeartbeats 4000000 in
theorem law_loop (C : LCx p l s m meth c b L xs D K) : ∀ (d j : Nat) (h : hH), L + 5 ≤ 5 * j + 5 * d → 5 * j ≤ L + 4 → LI x mm o h j → J p l e room_1 s m #[Value.ref b] below meth c 7 D cls0 (fun q => s.heap.size ≤ q) h (LV b x mm o (5 * j)) (68 + 418 * j) (26254 + 5335 * j) (lw_Z below #[Value.ref b] s) 23 [] := by
  intro d
  induction d with
  | zero => intro j h h1 h2; exact absurd h1 (by omega)
  | succ d ih =>
    intro j h h1 h2 LIh
    obtain ⟨X, V, hbl, hL, Z, hfl, hr, hlk⟩ := id C
    have hbA : ¬ (fun q => s.heap.size ≤ q) b := Nat.not_le.mpr hbl
    obtain ⟨I, hI⟩ : ∃ I, I = 5 * j := ⟨_, rfl⟩
    rw [← hI]
    refine J_iload (pc := 23) X 4 dw_23 rfl ?_
    refine J_aload_n (pc := 25) X 0 dw_25 rfl ?_
    refine J_slen (pc := 26) X V hbl hbA dw_26 ?_
    refine J_iconst (pc := 27) (v := 5) X dw_27 (by decide) ?_
    refine J_isub (pc := 28) X dw_28 ?_
    refine J_icmp_gt (pc := 29) (tgt := 738) X dw_29 (by decide) (fun _ => ?_) (fun q => ?_)
    · refine J_iconst (pc := 738) (v := 1) X dw_738 (by decide) ?_
      exact J_lawret C (by omega) (by omega)
    · have hlt := five_left hL (by omega) q
      have next : ∀ h', LI x mm o h' (j + 1) → J p l e room_1 s m #[Value.ref b] below meth c 7 D cls0 (fun q => s.heap.size ≤ q) h' (LV b x mm o I) (68 + 418 * (j + 1)) (26254 + 5335 * (j + 1)) (lw_Z below #[Value.ref b] s) 732 [] := by
        intro h' L'
        refine J_iinc (pc := 732) (v := nI (5 * (j + 1))) (lv' := [(4, .int (nI (5 * (j + 1)))), (0, .ref b), (1, .ref x), (2, .ref mm), (3, .ref o)]) X 4 dw_732 rfl ?_ (by decide) rfl ?_
        · have : Int32.ofInt 5 = nI 5 := rfl
          rw [this, nI_add, hI]
          congr 1
        · refine J_goto (pc := 735) (tgt := 23) X dw_735 (by decide) ?_
          refine J_sub [1, 2, 3, 4, 0] rfl ?_
          exact ih (j + 1) h' (by omega) (by omega) L'
      refine J_aload_n (pc := 32) X 0 dw_32 rfl ?_
      refine J_iload (pc := 33) X 4 dw_33 rfl ?_
      refine J_sld (pc := 35) X V hbl hbA hL (by omega) dw_35 ?_
      refine J_bipush (pc := 36) (v := 15) X dw_36 (by decide) ?_
      refine J_iand (pc := 38) X dw_38 ?_
      obtain ⟨u, hu, eu⟩ := u15 (xs I)
      have hu' : u = 0 ∨ u = 1 ∨ u = 2 ∨ u = 3 ∨ u = 4 ∨ u = 5 ∨ u = 6 ∨ u = 7 ∨ u = 8 ∨ u = 9 ∨ u = 10 ∨ u = 11 ∨ u = 12 ∨ u = 13 ∨ u = 14 ∨ u = 15 := by omega
      rcases hu' with q0 | q0 | q0 | q0 | q0 | q0 | q0 | q0 | q0 | q0 | q0 | q0 | q0 | q0 | q0 | q0 <;> subst q0
      · exact J_tableIn (pc := 39) (tgt := 116) X (nI 0) eu dw_39 (by decide) (by decide) rfl (by decide) (lc_unit C hI hlt LIh next)
      · exact J_tableIn (pc := 39) (tgt := 141) X (nI 1) eu dw_39 (by decide) (by decide) rfl (by decide) (lc_read C hI hlt LIh next)
      · exact J_tableIn (pc := 39) (tgt := 166) X (nI 2) eu dw_39 (by decide) (by decide) rfl (by decide) (lc_editions C hI hlt LIh next)
      · exact J_tableIn (pc := 39) (tgt := 179) X (nI 3) eu dw_39 (by decide) (by decide) rfl (by decide) (lc_fact C hI hlt LIh next)
      · exact J_tableIn (pc := 39) (tgt := 248) X (nI 4) eu dw_39 (by decide) (by decide) rfl (by decide) (lc_clearFacts C hI hlt LIh next)
      · exact J_tableIn (pc := 39) (tgt := 261) X (nI 5) eu dw_39 (by decide) (by decide) rfl (by decide) (lc_run C hI hlt LIh next)
      · exact J_tableIn (pc := 39) (tgt := 286) X (nI 6) eu dw_39 (by decide) (by decide) rfl (by decide) (lc_walk C hI hlt LIh next)
      · exact J_tableIn (pc := 39) (tgt := 311) X (nI 7) eu dw_39 (by decide) (by decide) rfl (by decide) (lc_broken C hI hlt LIh next)
      · exact J_tableIn (pc := 39) (tgt := 348) X (nI 8) eu dw_39 (by decide) (by decide) rfl (by decide) (lc_open C hI hlt LIh next)
      · exact J_tableIn (pc := 39) (tgt := 385) X (nI 9) eu dw_39 (by decide) (by decide) rfl (by decide) (lc_explain C hI hlt LIh next)
      · exact J_tableIn (pc := 39) (tgt := 410) X (nI 10) eu dw_39 (by decide) (by decide) rfl (by decide) (lc_table C hI hlt LIh next)
      · exact J_tableIn (pc := 39) (tgt := 490) X (nI 11) eu dw_39 (by decide) (by decide) rfl (by decide) (lc_allowed C hI hlt LIh next)
      · exact J_tableIn (pc := 39) (tgt := 539) X (nI 12) eu dw_39 (by decide) (by decide) rfl (by decide) (lc_write C hI hlt LIh next)
      · exact J_tableIn (pc := 39) (tgt := 576) X (nI 13) eu dw_39 (by decide) (by decide) rfl (by decide) (lc_written C hI hlt LIh next)
      · exact J_tableIn (pc := 39) (tgt := 601) X (nI 14) eu dw_39 (by decide) (by decide) rfl (by decide) (lc_haul C hI hlt LIh next)
      · exact J_tableIn (pc := 39) (tgt := 682) X (nI 15) eu dw_39 (by decide) (by decide) rfl (by decide) (lc_byCatch C hI hlt LIh next)
end LAWLOOP
