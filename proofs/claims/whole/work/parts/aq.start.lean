/-! THE START: what stays as it is, at the law's entry -/
def NW : List Cond := flatC (Jvm.Cond.and given_1 narrow_1)
def sTm (i : Nat) : Term := .string "LicenceTexts$TextReader" ((hG.2.2.2.map fun q => q.1).getD i 0)
def sLen : List Nat := hG.2.2.2.map fun q => q.2.2.length
def sByt : List (List Int32) := hG.2.2.2.map fun q => q.2.2
set_option maxRecDepth 100000 in
theorem sN1 : (List.range 19).all (fun i => decide (Cond.exactly (sTm i) "java/lang/String" ∈ NW) && decide (Cond.eq (.field (sTm i) "java/lang/String" "coder" "B") (.int 0) ∈ NW) && decide (Cond.arrayOf (.field (sTm i) "java/lang/String" "value" "[B") .byte ∈ NW) && decide (Cond.eq (.length (.field (sTm i) "java/lang/String" "value" "[B")) (.int (Int32.ofNat (sLen.getD i 0))) ∈ NW) && decide (sLen.getD i 0 < 2 ^ 31)) = true := by decide +kernel
set_option maxRecDepth 100000 in
theorem sN2 : (List.range 19).all (fun i => (List.range (sLen.getD i 0)).all (fun j => decide (Cond.eq (.elem (.field (sTm i) "java/lang/String" "value" "[B") (.int (Int32.ofNat j))) (.int ((sByt.getD i []).getD j 0)) ∈ NW))) = true := by decide +kernel
/-- where the Statement says that two constants differ -/
def sPos : List (List Nat) := [[0, 41, 50, 57, 68, 78, 88, 99, 111, 124, 138, 153, 169, 186, 205, 224, 245, 268, 293], [0, 0, 51, 58, 69, 79, 89, 100, 112, 125, 139, 154, 170, 187, 206, 225, 246, 269, 294], [0, 0, 0, 59, 70, 80, 90, 101, 113, 126, 140, 155, 171, 188, 207, 226, 247, 270, 295], [0, 0, 0, 0, 71, 81, 91, 102, 114, 127, 141, 156, 172, 189, 208, 227, 248, 271, 296], [0, 0, 0, 0, 0, 82, 92, 103, 115, 128, 142, 157, 173, 190, 209, 228, 249, 272, 297], [0, 0, 0, 0, 0, 0, 93, 104, 116, 129, 143, 158, 174, 191, 210, 229, 250, 273, 298], [0, 0, 0, 0, 0, 0, 0, 105, 117, 130, 144, 159, 175, 192, 211, 230, 251, 274, 299], [0, 0, 0, 0, 0, 0, 0, 0, 118, 131, 145, 160, 176, 193, 212, 231, 252, 275, 300], [0, 0, 0, 0, 0, 0, 0, 0, 0, 132, 146, 161, 177, 194, 213, 232, 253, 276, 301], [0, 0, 0, 0, 0, 0, 0, 0, 0, 0, 147, 162, 178, 195, 214, 233, 254, 277, 302], [0, 0, 0, 0, 0, 0, 0, 0, 0, 0, 0, 163, 179, 196, 215, 234, 255, 278, 303], [0, 0, 0, 0, 0, 0, 0, 0, 0, 0, 0, 0, 180, 197, 216, 235, 256, 279, 304], [0, 0, 0, 0, 0, 0, 0, 0, 0, 0, 0, 0, 0, 198, 217, 236, 257, 280, 305], [0, 0, 0, 0, 0, 0, 0, 0, 0, 0, 0, 0, 0, 0, 218, 237, 258, 281, 306], [0, 0, 0, 0, 0, 0, 0, 0, 0, 0, 0, 0, 0, 0, 0, 238, 259, 282, 307], [0, 0, 0, 0, 0, 0, 0, 0, 0, 0, 0, 0, 0, 0, 0, 0, 260, 283, 308], [0, 0, 0, 0, 0, 0, 0, 0, 0, 0, 0, 0, 0, 0, 0, 0, 0, 284, 309], [0, 0, 0, 0, 0, 0, 0, 0, 0, 0, 0, 0, 0, 0, 0, 0, 0, 0, 310], [0, 0, 0, 0, 0, 0, 0, 0, 0, 0, 0, 0, 0, 0, 0, 0, 0, 0, 0]]
set_option maxRecDepth 100000 in
theorem sN3 : (List.range 19).all (fun i => (List.range 19).all (fun j => decide (j ≤ i) || decide (NW[(sPos.getD i []).getD j 0]? = some (Cond.not (Cond.eq (sTm i) (sTm j)))))) = true := by decide +kernel
set_option maxRecDepth 100000 in
theorem sN4 : hG.2.2.2.all (fun q => decide (Cond.stringRef "LicenceTexts$TextReader" q.1 q.2.1 ∈ lw_tbl)) = true := by decide +kernel
set_option maxRecDepth 100000 in
theorem sN5 : hG.1.all (fun t => decide (hNl t ∈ lw_tbl)) = true := by decide +kernel
set_option maxRecDepth 100000 in
theorem sN6 : hG.2.1.all (fun C => decide (Cond.arrayOver (.object C) ∈ lw_tbl)) = true := by decide +kernel
set_option maxRecDepth 100000 in
theorem sN7 : [Cond.laysStatic "java/lang/String" "COMPACT_STRINGS" "Z", .initialized "java/lang/String", .laysStatic "jdk/internal/util/Preconditions" "SIOOBE_FORMATTER" "Ljava/util/function/BiFunction;", .initialized "jdk/internal/util/Preconditions", .laysStatic Bundle.tN "UNASSIGNED_STACK" Bundle.steD, .laysStatic Bundle.tN "SUPPRESSED_SENTINEL" Bundle.listD, .stringRef "LicenceTexts" 149 "no such table or number"].all (fun w => decide (w ∈ lw_tbl)) = true := by decide +kernel
set_option maxRecDepth 100000 in
theorem sN8 : [Cond.eq (.static "java/lang/String" "COMPACT_STRINGS" "Z") (.int 1), .isRef (.static "jdk/internal/util/Preconditions" "SIOOBE_FORMATTER" "Ljava/util/function/BiFunction;"), .isRef (.static Bundle.tN "UNASSIGNED_STACK" Bundle.steD), .isRef (.static Bundle.tN "SUPPRESSED_SENTINEL" Bundle.listD), .exactly (.string "LicenceTexts" 149) "java/lang/String"].all (fun w => decide (w ∈ NW)) = true := by decide +kernel
theorem sN_of {l L : List Cond} (h : l.all (fun w => decide (w ∈ L)) = true) (i : Nat) {w : Cond} (hi : l[i]? = some w) : w ∈ L := by
  have := List.all_eq_true.mp h w (List.mem_of_getElem? hi)
  simpa using this
set_option maxRecDepth 100000 in
theorem sIn : [Cond.instantiable "LicenceTexts$Bytes" 2, .instantiable "LicenceTexts$Edition" 6, .instantiable "LicenceTexts$Facts" 2, .instantiable "LicenceTexts$Findings" 5, .instantiable "LicenceTexts$Hauls" 1, .instantiable "LicenceTexts$Reckoner" 5, .instantiable "LicenceTexts$Rule" 5, .instantiable "LicenceTexts$Steps" 3, .instantiable "LicenceTexts$Tables" 3, .instantiable "LicenceTexts$TextReader" 8, .instantiable "LicenceTexts$Words" 5, .instantiable "LicenceTexts" 10, .instantiable "LicenceTextsModel" 39].all (fun w => decide (w ∈ lw_tbl)) = true := by decide +kernel
theorem sN3_of {i j : Nat} (hi : i < 19) (hj : j < 19) (c : i < j) : Cond.not (Cond.eq (sTm i) (sTm j)) ∈ NW := by
  have h1 := List.all_eq_true.mp sN3 i (List.mem_range.mpr hi)
  have h2 := List.all_eq_true.mp h1 j (List.mem_range.mpr hj)
  rw [Bool.or_eq_true, decide_eq_true_eq, decide_eq_true_eq] at h2
  rcases h2 with h2 | h2
  · omega
  · exact List.mem_of_getElem? h2
theorem sN2_of {i j : Nat} (hi : i < 19) (hj : j < sLen.getD i 0) : Cond.eq (.elem (.field (sTm i) "java/lang/String" "value" "[B") (.int (Int32.ofNat j))) (.int ((sByt.getD i []).getD j 0)) ∈ NW := by
  have h1 := List.all_eq_true.mp sN2 i (List.mem_range.mpr hi)
  have h2 := List.all_eq_true.mp h1 j (List.mem_range.mpr hj)
  exact of_decide_eq_true h2
theorem sN4_of {q : Nat × String × List Int32} (h : q ∈ hG.2.2.2) : Cond.stringRef "LicenceTexts$TextReader" q.1 q.2.1 ∈ lw_tbl := of_decide_eq_true (List.all_eq_true.mp sN4 q h)
/-- a String constant's entry, whatever the arguments -/
theorem va_strR {own tx : String} {k a : Nat} {A : Array Value} {U : State} (h1 : (Cond.stringRef own k tx).before A U = true) (h2 : (Term.string own k).eval A U none [] U = some (.ref a)) : vk_R own k tx a U := vk_R.of h1 h2
section START
variable {s : State} {b : Nat}
theorem start_K (hts : ∀ w ∈ lw_tbl, w.before #[Value.ref b] s = true) : ∃ D : va_G, ∀ (k : Nat) (q : vw_C), cls0[k]? = some q → u_Kn s q.1 q.2.1 q.2.2 (D.1 k) (D.2 k) := by
  have h0 : ∀ w ∈ T0, w.before #[Value.ref b] s = true := fun w hw => hts w (List.mem_filter.mp hw).1
  have key : ∀ k : Nat, ∃ z : ClassId × (Nat → Nat), ∀ q : vw_C, cls0[k]? = some q → u_Kn s q.1 q.2.1 q.2.2 z.1 z.2 := by
    intro k
    match k with
    | 0 => obtain ⟨c, i, hk⟩ := u_known h0 in_Bytes (hts _ (sN_of sIn 0 rfl)); exact ⟨(c, i), fun q hq => by cases hq; exact hk⟩
    | 1 => obtain ⟨c, i, hk⟩ := u_known h0 in_Edition (hts _ (sN_of sIn 1 rfl)); exact ⟨(c, i), fun q hq => by cases hq; exact hk⟩
    | 2 => obtain ⟨c, i, hk⟩ := u_known h0 in_Facts (hts _ (sN_of sIn 2 rfl)); exact ⟨(c, i), fun q hq => by cases hq; exact hk⟩
    | 3 => obtain ⟨c, i, hk⟩ := u_known h0 in_Findings (hts _ (sN_of sIn 3 rfl)); exact ⟨(c, i), fun q hq => by cases hq; exact hk⟩
    | 4 => obtain ⟨c, i, hk⟩ := u_known h0 in_Hauls (hts _ (sN_of sIn 4 rfl)); exact ⟨(c, i), fun q hq => by cases hq; exact hk⟩
    | 5 => obtain ⟨c, i, hk⟩ := u_known h0 in_Reckoner (hts _ (sN_of sIn 5 rfl)); exact ⟨(c, i), fun q hq => by cases hq; exact hk⟩
    | 6 => obtain ⟨c, i, hk⟩ := u_known h0 in_Rule (hts _ (sN_of sIn 6 rfl)); exact ⟨(c, i), fun q hq => by cases hq; exact hk⟩
    | 7 => obtain ⟨c, i, hk⟩ := u_known h0 in_Steps (hts _ (sN_of sIn 7 rfl)); exact ⟨(c, i), fun q hq => by cases hq; exact hk⟩
    | 8 => obtain ⟨c, i, hk⟩ := u_known h0 in_Tables (hts _ (sN_of sIn 8 rfl)); exact ⟨(c, i), fun q hq => by cases hq; exact hk⟩
    | 9 => obtain ⟨c, i, hk⟩ := u_known h0 in_TextReader (hts _ (sN_of sIn 9 rfl)); exact ⟨(c, i), fun q hq => by cases hq; exact hk⟩
    | 10 => obtain ⟨c, i, hk⟩ := u_known h0 in_Words (hts _ (sN_of sIn 10 rfl)); exact ⟨(c, i), fun q hq => by cases hq; exact hk⟩
    | 11 => obtain ⟨c, i, hk⟩ := u_known h0 in_LT (hts _ (sN_of sIn 11 rfl)); exact ⟨(c, i), fun q hq => by cases hq; exact hk⟩
    | 12 => obtain ⟨c, i, hk⟩ := u_known h0 in_Mo (hts _ (sN_of sIn 12 rfl)); exact ⟨(c, i), fun q hq => by cases hq; exact hk⟩
    | k + 13 => exact ⟨(0, fun _ => 0), fun q hq => by simp [cls0] at hq⟩
  obtain ⟨z, hz⟩ := Classical.axiomOfChoice key
  exact ⟨(fun k => (z k).1, fun k => (z k).2), hz⟩
theorem start_st (hts : ∀ w ∈ lw_tbl, w.before #[Value.ref b] s = true) (hgv : (Jvm.Cond.and given_1 narrow_1).before #[Value.ref b] s = true) : ∃ (D : va_G) (K : (Nat → Nat) × (Nat → Nat)), hst hG D cls0 K (fun q => s.heap.size ≤ q) s s.heap ∧ tH (fun q => s.heap.size ≤ q) s s.heap := by
  have hA : ∀ a : Nat, a < s.heap.size → ¬ (fun q => s.heap.size ≤ q) a := fun a h => Nat.not_le.mpr h
  have hn := flat_of_before _ hgv
  obtain ⟨D, hD⟩ := start_K hts
  have s1 : ∀ i, i < 19 → _ := fun i hi => List.all_eq_true.mp sN1 i (List.mem_range.mpr hi)
  simp only [Bool.and_eq_true, decide_eq_true_eq] at s1
  obtain ⟨adK, adV, hS, hE⟩ := vk_Sof (args := #[Value.ref b]) (s := s) (N := 19) (tm := sTm) (len := sLen) (byt := sByt) (A := fun q => s.heap.size ≤ q) (fun i hi => (s1 i hi).2) (fun i hi => hn _ (s1 i hi).1.1.1.1) (fun i hi => hn _ (s1 i hi).1.1.1.2) (fun i hi => hn _ (s1 i hi).1.1.2) (fun i hi => hn _ (s1 i hi).1.2) (fun i hi j hj => by
      exact hn _ (sN2_of hi hj)) (fun i j hi hj hij => by
      rcases Nat.lt_or_ge i j with c | c
      · exact Or.inl (hn _ (sN3_of hi hj c))
      · exact Or.inr (hn _ (sN3_of hj hi (by omega)))) hA
  refine ⟨D, (adK, adV), ⟨hD, fun t ht => ?_, fun C hC => ?_, hS, fun i q hq => ?_, ?_, ?_⟩, ?_, ?_, fun w hw hh => ?_, ?_⟩
  · have h1 := List.all_eq_true.mp sN5 t ht
    exact va_Nw.of rfl (hts _ (by simpa using h1))
  · have h1 := List.all_eq_true.mp sN6 C hC
    exact va_AO.of (hts _ (by simpa using h1))
  · have hi : i < 19 := (List.getElem?_eq_some_iff.mp hq).1
    have h2 := hE i hi
    have h3 : sTm i = .string "LicenceTexts$TextReader" q.1 := by
      have h4 : (hG.2.2.2.map fun q => q.1).getD i 0 = q.1 := by
        rw [List.getD, List.getElem?_map, hq]; rfl
      unfold sTm
      rw [h4]
    rw [h3] at h2
    exact va_strR (hts _ (sN4_of (List.mem_of_getElem? hq))) h2
  · exact va_Zof (hts _ (sN_of sN7 0 rfl)) (hts _ (sN_of sN7 1 rfl)) (va_eqi (hn _ (sN_of sN8 0 rfl))) hA
  · exact va_Zqof (hts _ (sN_of sN7 2 rfl)) (hts _ (sN_of sN7 3 rfl)) (hn _ (sN_of sN8 1 rfl)) hA
  · exact zT.of (hts _ (sN_of sN7 4 rfl)) (hn _ (sN_of sN8 2 rfl)) hA
  · exact zT.of (hts _ (sN_of sN7 5 rfl)) (hn _ (sN_of sN8 3 rfl)) hA
  · have h1 := List.all_eq_true.mp ow_in w hw
    rw [hh] at h1
    exact va_tabs (ow_spec hw hh).1 rfl (hts w (by simpa using h1))
  · obtain ⟨a, c, cA, kA, q1, -⟩ := Cond.exactly_spec (args := #[Value.ref b]) (first := s) (o := none) (s := s) (idx := []) (t := .string "LicenceTexts" 149) (cls := "java/lang/String") (hn _ (sN_of sN8 4 rfl))
    exact ⟨a, va_strR (hts _ (sN_of sN7 6 rfl)) q1⟩
end START
