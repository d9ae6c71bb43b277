def N_Mo_thrown (F : Nat) (s : MS) : Option (Int32 × MS) :=
  some (s.1 0, s)
def N_Mo_unit (F : Nat) (s : MS) (x1 : Int32) : Option (Int32 × MS) :=
  (some (sPut s 0 0)).bind fun y1 =>
  if (y1.1 2) = 800 then (
    some (0, y1)
  ) else (
    if (y1.1 2) < 0 ∨ 800 ≤ (y1.1 2).toNatClampNeg then none else
    (some (sStI y1 1 (y1.1 2).toNatClampNeg x1.toInt8.toInt32.toInt8.toInt32)).bind fun y5 =>
    (some (sPut y5 2 ((y5.1 2) + 1))).bind fun y7 =>
    some (1, y7)
  )
def N_Mo_five (F : Nat) (s : MS) (x0 : Int32) (x1 : Int32) (x2 : Int32) (x3 : Int32) (x4 : Int32) : Option (Int64 × MS) :=
  some ((((((((x0.toInt64 * 256) + x1.toInt64) * 256) + x2.toInt64) * 256) + x3.toInt64) * 256) + x4.toInt64, s)
def N_Mo_nameOf_93 (F : Nat) (r68 : MS → Int32 → Int32 → Int64 → Int32 → Option (Int32 × MS)) (s : MS) (x1 : Int32) (x2 : Int32) (x5 : Int32) (s0 : Int64) : Option (Int32 × MS) :=
  r68 s x1 x2 s0 (x5 + 1)
def BN_Mo_nameOf_68 (F : Nat) (r68 : MS → Int32 → Int32 → Int64 → Int32 → Option (Int32 × MS)) (s : MS) (x1 : Int32) (x2 : Int32) (x3 : Int64) (x5 : Int32) : Option (Int32 × MS) :=
  if x2 ≤ x5 then (
    (N_Mo_five F s 116 97 98 108 101).bind fun q2 =>
    if (lg_cmp x3 q2.1) = 0 then (
      some ((-1), q2.2)
    ) else (
      (N_Mo_five F q2.2 114 117 108 101 0).bind fun q5 =>
      if (lg_cmp x3 q5.1) = 0 then (
        some ((-2), q5.2)
      ) else (
        (N_Mo_five F q5.2 119 104 101 110 0).bind fun q8 =>
        if (lg_cmp x3 q8.1) = 0 then (
          some ((-3), q8.2)
        ) else (
          (N_Mo_five F q8.2 110 101 101 100 0).bind fun q11 =>
          if (lg_cmp x3 q11.1) = 0 then (
            some ((-4), q11.2)
          ) else (
            (N_Mo_five F q11.2 97 110 100 0 0).bind fun q14 =>
            if (lg_cmp x3 q14.1) = 0 then (
              some ((-5), q14.2)
            ) else (
              (N_Mo_five F q14.2 102 97 99 116 0).bind fun q17 =>
              if (lg_cmp x3 q17.1) = 0 then (
                some ((-6), q17.2)
              ) else (
                (N_Mo_five F q17.2 97 116 0 0 0).bind fun q20 =>
                if (lg_cmp x3 q20.1) = 0 then (
                  some ((-7), q20.2)
                ) else (
                  some ((-20), q20.2)
                )
              )
            )
          )
        )
      )
    )
  ) else (
    if (x1 + x5) < 0 ∨ 800 ≤ (x1 + x5).toNatClampNeg then none else
    if (s.2.1 1 (x1 + x5).toNatClampNeg) = 0 then (
      N_Mo_nameOf_93 F r68 s x1 x2 x5 (-1)
    ) else (
      N_Mo_nameOf_93 F r68 s x1 x2 x5 x3
    )
  )
def N_Mo_nameOf_68 (F : Nat) : Nat → MS → Int32 → Int32 → Int64 → Int32 → Option (Int32 × MS)
  | 0 => fun _ _ _ _ _ => none
  | z + 1 => BN_Mo_nameOf_68 F (N_Mo_nameOf_68 F z)
def N_Mo_nameOf_65 (F : Nat) (s : MS) (x1 : Int32) (x2 : Int32) (x3 : Int64) : Option (Int32 × MS) :=
  N_Mo_nameOf_68 F F s x1 x2 x3 0
def N_Mo_nameOf_56 (F : Nat) (r16 : MS → Int32 → Int32 → Int64 → Int32 → Option (Int32 × MS)) (s : MS) (x1 : Int32) (x2 : Int32) (x5 : Int32) (s0 : Int64) (s1 : Int32) : Option (Int32 × MS) :=
  r16 s x1 x2 (s0 + s1.toInt64) (x5 + 1)
def BN_Mo_nameOf_16 (F : Nat) (r16 : MS → Int32 → Int32 → Int64 → Int32 → Option (Int32 × MS)) (s : MS) (x1 : Int32) (x2 : Int32) (x3 : Int64) (x5 : Int32) : Option (Int32 × MS) :=
  if 5 ≤ x5 then (
    N_Mo_nameOf_65 F s x1 x2 x3
  ) else (
    if 6 ≤ x2 then (
      N_Mo_nameOf_65 F s x1 x2 x3
    ) else (
      if x2 ≤ x5 then (
        N_Mo_nameOf_56 F r16 s x1 x2 x5 (256 * x3) 0
      ) else (
        if (x1 + x5) < 0 ∨ 800 ≤ (x1 + x5).toNatClampNeg then none else
        N_Mo_nameOf_56 F r16 s x1 x2 x5 (256 * x3) ((s.2.1 1 (x1 + x5).toNatClampNeg) &&& 255)
      )
    )
  )
def N_Mo_nameOf_16 (F : Nat) : Nat → MS → Int32 → Int32 → Int64 → Int32 → Option (Int32 × MS)
  | 0 => fun _ _ _ _ _ => none
  | z + 1 => BN_Mo_nameOf_16 F (N_Mo_nameOf_16 F z)
def N_Mo_nameOf_12 (F : Nat) (s : MS) (x1 : Int32) (x2 : Int32) (s0 : Int64) : Option (Int32 × MS) :=
  N_Mo_nameOf_16 F F s x1 x2 s0 0
def N_Mo_nameOf (F : Nat) (s : MS) (x1 : Int32) (x2 : Int32) : Option (Int32 × MS) :=
  if x2 ≤ 5 then (
    N_Mo_nameOf_12 F s x1 x2 0
  ) else (
    N_Mo_nameOf_12 F s x1 x2 (-1)
  )
def N_Mo_wordOf_141 (F : Nat) (s : MS) (x1 : Int32) (x2 : Int32) (s0 : Int32) : Option (Int32 × MS) :=
  if s0 = 37 then (
    some ((-14), s)
  ) else
  if s0 = 40 then (
    some ((-8), s)
  ) else
  if s0 = 41 then (
    some ((-9), s)
  ) else
  if s0 = 42 then (
    some ((-12), s)
  ) else
  if s0 = 43 then (
    some ((-10), s)
  ) else
  if s0 = 45 then (
    some ((-11), s)
  ) else
  if s0 = 47 then (
    some ((-13), s)
  ) else
  if s0 = 59 then (
    some ((-19), s)
  ) else
  if s0 = 60 then (
    some ((-15), s)
  ) else
  if s0 = 61 then (
    some ((-17), s)
  ) else
  if s0 = 303 then (
    some ((-18), s)
  ) else
  if s0 = 316 then (
    some ((-16), s)
  ) else
  (N_Mo_nameOf F s x1 x2).bind fun q13 =>
  some (q13.1, q13.2)
def N_Mo_wordOf_140 (F : Nat) (s : MS) (x1 : Int32) (x2 : Int32) : Option (Int32 × MS) :=
  N_Mo_wordOf_141 F s x1 x2 0
def N_Mo_wordOf_88 (F : Nat) (s : MS) (x1 : Int32) (x2 : Int32) (x3 : Int32) (x4 : Int32) : Option (Int32 × MS) :=
  if x3 = 0 then (
    if x2 = 1 then (
      if x1 < 0 ∨ 800 ≤ x1.toNatClampNeg then none else
      N_Mo_wordOf_141 F s x1 x2 (s.2.1 1 x1.toNatClampNeg)
    ) else (
      if x2 = 2 then (
        if (x1 + 1) < 0 ∨ 800 ≤ (x1 + 1).toNatClampNeg then none else
        if (s.2.1 1 (x1 + 1).toNatClampNeg) = 61 then (
          if x1 < 0 ∨ 800 ≤ x1.toNatClampNeg then none else
          N_Mo_wordOf_141 F s x1 x2 (256 + (s.2.1 1 x1.toNatClampNeg))
        ) else (
          N_Mo_wordOf_140 F s x1 x2
        )
      ) else (
        N_Mo_wordOf_140 F s x1 x2
      )
    )
  ) else (
    some (x4, s)
  )
def N_Mo_wordOf_61 (F : Nat) (r18 : MS → Int32 → Int32 → Int32 → Int32 → Int32 → Option (Int32 × MS)) (s : MS) (x1 : Int32) (x2 : Int32) (x4 : Int32) (x5 : Int32) (s0 : Int32) : Option (Int32 × MS) :=
  if (x1 + x5) < 0 ∨ 800 ≤ (x1 + x5).toNatClampNeg then none else
  r18 s x1 x2 s0 (((10 * x4) + (s.2.1 1 (x1 + x5).toNatClampNeg)) - 48) (x5 + 1)
def N_Mo_wordOf_60 (F : Nat) (r18 : MS → Int32 → Int32 → Int32 → Int32 → Int32 → Option (Int32 × MS)) (s : MS) (x1 : Int32) (x2 : Int32) (x4 : Int32) (x5 : Int32) : Option (Int32 × MS) :=
  N_Mo_wordOf_61 F r18 s x1 x2 x4 x5 0
def BN_Mo_wordOf_18 (F : Nat) (r18 : MS → Int32 → Int32 → Int32 → Int32 → Int32 → Option (Int32 × MS)) (s : MS) (x1 : Int32) (x2 : Int32) (x3 : Int32) (x4 : Int32) (x5 : Int32) : Option (Int32 × MS) :=
  if x2 ≤ x5 then (
    N_Mo_wordOf_88 F s x1 x2 x3 x4
  ) else (
    if x3 = 0 then (
      N_Mo_wordOf_88 F s x1 x2 x3 x4
    ) else (
      if (x1 + x5) < 0 ∨ 800 ≤ (x1 + x5).toNatClampNeg then none else
      if (s.2.1 1 (x1 + x5).toNatClampNeg) < 48 then (
        N_Mo_wordOf_60 F r18 s x1 x2 x4 x5
      ) else (
        if (x1 + x5) < 0 ∨ 800 ≤ (x1 + x5).toNatClampNeg then none else
        if 57 < (s.2.1 1 (x1 + x5).toNatClampNeg) then (
          N_Mo_wordOf_60 F r18 s x1 x2 x4 x5
        ) else (
          N_Mo_wordOf_61 F r18 s x1 x2 x4 x5 1
        )
      )
    )
  )
def N_Mo_wordOf_18 (F : Nat) : Nat → MS → Int32 → Int32 → Int32 → Int32 → Int32 → Option (Int32 × MS)
  | 0 => fun _ _ _ _ _ _ => none
  | z + 1 => BN_Mo_wordOf_18 F (N_Mo_wordOf_18 F z)
def N_Mo_wordOf_11 (F : Nat) (s : MS) (x1 : Int32) (x2 : Int32) (s0 : Int32) : Option (Int32 × MS) :=
  N_Mo_wordOf_18 F F s x1 x2 s0 0 0
def N_Mo_wordOf (F : Nat) (s : MS) (x1 : Int32) (x2 : Int32) : Option (Int32 × MS) :=
  if 10 ≤ x2 then (
    N_Mo_wordOf_11 F s x1 x2 0
  ) else (
    N_Mo_wordOf_11 F s x1 x2 1
  )
def N_Mo_isBlank (F : Nat) (s : MS) (x0 : Int32) : Option (Int32 × MS) :=
  if x0 = 32 then (
    some (1, s)
  ) else (
    if x0 = 10 then (
      some (1, s)
    ) else (
      some (0, s)
    )
  )
def BN_Mo_split_123 (F : Nat) (r123 : MS → Int32 → Option MS) (s : MS) (x3 : Int32) : Option MS :=
  if (s.1 2) ≤ x3 then (
    some s
  ) else (
    if x3 < 0 ∨ 800 ≤ x3.toNatClampNeg then none else
    if ((800 * (s.1 22)) + x3) < 0 ∨ 4800 ≤ ((800 * (s.1 22)) + x3).toNatClampNeg then none else
    (some (sStI s 5 ((800 * (s.1 22)) + x3).toNatClampNeg (s.2.1 1 x3.toNatClampNeg).toInt8.toInt32)).bind fun y4 =>
    r123 y4 (x3 + 1)
  )
def N_Mo_split_123 (F : Nat) : Nat → MS → Int32 → Option MS
  | 0 => fun _ _ => none
  | z + 1 => BN_Mo_split_123 F (N_Mo_split_123 F z)
def N_Mo_split_105 (F : Nat) (r4 : MS → Int32 → Int32 → Option MS) (s : MS) (x1 : Int32) (x2 : Int32) : Option MS :=
  r4 s x1 (x2 + 1)
def N_Mo_split_40 (F : Nat) (r4 : MS → Int32 → Int32 → Option MS) (s : MS) (x1 : Int32) (x2 : Int32) (x3 : Int32) : Option MS :=
  if x2 ≤ x3 then (
    N_Mo_split_105 F r4 s x1 x2
  ) else (
    if ((400 * (s.1 22)) + x1) < 0 ∨ 2400 ≤ ((400 * (s.1 22)) + x1).toNatClampNeg then none else
    (some (sStI s 6 ((400 * (s.1 22)) + x1).toNatClampNeg x3)).bind fun y3 =>
    if ((400 * (y3.1 22)) + x1) < 0 ∨ 2400 ≤ ((400 * (y3.1 22)) + x1).toNatClampNeg then none else
    (some (sStI y3 7 ((400 * (y3.1 22)) + x1).toNatClampNeg (x2 - x3))).bind fun y6 =>
    (N_Mo_wordOf F y6 x3 (x2 - x3)).bind fun q8 =>
    if ((400 * (y6.1 22)) + x1) < 0 ∨ 2400 ≤ ((400 * (y6.1 22)) + x1).toNatClampNeg then none else
    (some (sStI q8.2 8 ((400 * (y6.1 22)) + x1).toNatClampNeg q8.1)).bind fun y11 =>
    N_Mo_split_105 F r4 y11 (x1 + 1) x2
  )
def BN_Mo_split_14 (F : Nat) (r4 : MS → Int32 → Int32 → Option MS) (r14 : MS → Int32 → Int32 → Int32 → Option MS) (s : MS) (x1 : Int32) (x2 : Int32) (x3 : Int32) : Option MS :=
  if (s.1 2) ≤ x2 then (
    N_Mo_split_40 F r4 s x1 x2 x3
  ) else (
    if x2 < 0 ∨ 800 ≤ x2.toNatClampNeg then none else
    (N_Mo_isBlank F s (s.2.1 1 x2.toNatClampNeg)).bind fun q3 =>
    if q3.1 = 0 then (
      r14 q3.2 x1 (x2 + 1) x3
    ) else (
      N_Mo_split_40 F r4 q3.2 x1 x2 x3
    )
  )
def N_Mo_split_14 (F : Nat) (r4 : MS → Int32 → Int32 → Option MS) : Nat → MS → Int32 → Int32 → Int32 → Option MS
  | 0 => fun _ _ _ _ => none
  | z + 1 => BN_Mo_split_14 F r4 (N_Mo_split_14 F r4 z)
def BN_Mo_split_4 (F : Nat) (r4 : MS → Int32 → Int32 → Option MS) (s : MS) (x1 : Int32) (x2 : Int32) : Option MS :=
  if (s.1 2) ≤ x2 then (
    if (s.1 22) < 0 ∨ 6 ≤ (s.1 22).toNatClampNeg then none else
    (some (sStI s 9 (s.1 22).toNatClampNeg x1)).bind fun y3 =>
    N_Mo_split_123 F F y3 0
  ) else (
    N_Mo_split_14 F r4 F s x1 x2 x2
  )
def N_Mo_split_4 (F : Nat) : Nat → MS → Int32 → Int32 → Option MS
  | 0 => fun _ _ _ => none
  | z + 1 => BN_Mo_split_4 F (N_Mo_split_4 F z)
def N_Mo_split (F : Nat) (s : MS) : Option MS :=
  N_Mo_split_4 F F s 0 0
set_option maxHeartbeats 1000000 in
set_option maxRecDepth 100000 in
theorem n_Mo_thrown {ad : Nat → Nat} {m F : Nat} {h : hH} {s : MS} {q : (Int32 × MS)} (R : RepM ad m h s) (hN : N_Mo_thrown F s = some q) : ∃ h2, M_Mo_thrown F h m = some (q.1, h2) ∧ RepM ad m h2 q.2 := by
  unfold N_Mo_thrown at hN
  unfold M_Mo_thrown
  refine ex_b (rGetI R (k := 0) rfl) ?_
  obtain rfl := Option.some.inj hN
  exact ⟨_, rfl, R⟩
set_option maxHeartbeats 1000000 in
set_option maxRecDepth 100000 in
theorem n_Mo_unit {ad : Nat → Nat} {m F : Nat} {h : hH} {s : MS} {x1 : Int32} {q : (Int32 × MS)} (R : RepM ad m h s) (hN : N_Mo_unit F s x1 = some q) : ∃ h2, M_Mo_unit F h m x1 = some (q.1, h2) ∧ RepM ad m h2 q.2 := by
  unfold N_Mo_unit at hN
  unfold M_Mo_unit
  obtain ⟨y1, ey1, hN⟩ := hb_some hN
  obtain ⟨h2, eh2, R⟩ := rPut R (k := 0) (v := 0) rfl
  rw [Option.some.inj ey1] at R
  refine ex_b eh2 ?_
  refine ex_b (rGetI R (k := 2) rfl) ?_
  refine ex_if (fun c3 => ?_) (fun c3 => ?_)
  · have hN := hif_t hN c3
    obtain rfl := Option.some.inj hN
    exact ⟨_, rfl, R⟩
  · have hN := hif_f hN c3
    refine ex_b (rGetA R (k := 1) rfl) ?_
    refine ex_b (rGetI R (k := 2) rfl) ?_
    obtain ⟨c4, hN⟩ := hnz hN
    obtain ⟨y5, ey5, hN⟩ := hb_some hN
    obtain ⟨h6, eh6, R⟩ := rStB R (k := 1) (x := x1.toInt8.toInt32) rfl c4
    rw [Option.some.inj ey5] at R
    refine ex_b eh6 ?_
    refine ex_b (rGetI R (k := 2) rfl) ?_
    obtain ⟨y7, ey7, hN⟩ := hb_some hN
    obtain ⟨h8, eh8, R⟩ := rPut R (k := 2) (v := (y5.1 2) + 1) rfl
    rw [Option.some.inj ey7] at R
    refine ex_b eh8 ?_
    obtain rfl := Option.some.inj hN
    exact ⟨_, rfl, R⟩
set_option maxHeartbeats 1000000 in
set_option maxRecDepth 100000 in
theorem n_Mo_five {ad : Nat → Nat} {m F : Nat} {h : hH} {s : MS} {x0 : Int32} {x1 : Int32} {x2 : Int32} {x3 : Int32} {x4 : Int32} {q : (Int64 × MS)} (R : RepM ad m h s) (hN : N_Mo_five F s x0 x1 x2 x3 x4 = some q) : ∃ h2, M_Mo_five F h x0 x1 x2 x3 x4 = some (q.1, h2) ∧ RepM ad m h2 q.2 := by
  unfold N_Mo_five at hN
  unfold M_Mo_five
  obtain rfl := Option.some.inj hN
  exact ⟨_, rfl, R⟩
set_option maxHeartbeats 1000000 in
set_option maxRecDepth 100000 in
theorem n_Mo_nameOf_93 {ad : Nat → Nat} {m F : Nat} {m68 : hH → Nat → Int32 → Int32 → Int64 → Int32 → Option (Int32 × hH)} {r68 : MS → Int32 → Int32 → Int64 → Int32 → Option (Int32 × MS)} (P68 : ∀ (h : hH) (s : MS) (x1 : Int32) (x2 : Int32) (x3 : Int64) (x5 : Int32) (q : (Int32 × MS)), RepM ad m h s → r68 s x1 x2 x3 x5 = some q → ∃ h2, m68 h m x1 x2 x3 x5 = some (q.1, h2) ∧ RepM ad m h2 q.2) : ∀ (h : hH) (s : MS) (x1 : Int32) (x2 : Int32) (x5 : Int32) (s0 : Int64) (q : (Int32 × MS)), RepM ad m h s → N_Mo_nameOf_93 F r68 s x1 x2 x5 s0 = some q → ∃ h2, M_Mo_nameOf_93 F m68 h m x1 x2 x5 s0 = some (q.1, h2) ∧ RepM ad m h2 q.2 := by
  intro h s x1 x2 x5 s0 q R hN
  unfold N_Mo_nameOf_93 at hN
  unfold M_Mo_nameOf_93
  exact P68 _ _ _ _ _ _ _ R hN
set_option maxHeartbeats 1000000 in
set_option maxRecDepth 100000 in
theorem bn_Mo_nameOf_68 {ad : Nat → Nat} {m F : Nat} {m68 : hH → Nat → Int32 → Int32 → Int64 → Int32 → Option (Int32 × hH)} {r68 : MS → Int32 → Int32 → Int64 → Int32 → Option (Int32 × MS)} (P68 : ∀ (h : hH) (s : MS) (x1 : Int32) (x2 : Int32) (x3 : Int64) (x5 : Int32) (q : (Int32 × MS)), RepM ad m h s → r68 s x1 x2 x3 x5 = some q → ∃ h2, m68 h m x1 x2 x3 x5 = some (q.1, h2) ∧ RepM ad m h2 q.2) : ∀ (h : hH) (s : MS) (x1 : Int32) (x2 : Int32) (x3 : Int64) (x5 : Int32) (q : (Int32 × MS)), RepM ad m h s → BN_Mo_nameOf_68 F r68 s x1 x2 x3 x5 = some q → ∃ h2, B_Mo_nameOf_68 F m68 h m x1 x2 x3 x5 = some (q.1, h2) ∧ RepM ad m h2 q.2 := by
  intro h s x1 x2 x3 x5 q R hN
  unfold BN_Mo_nameOf_68 at hN
  unfold B_Mo_nameOf_68
  refine ex_if (fun c1 => ?_) (fun c1 => ?_)
  · have hN := hif_t hN c1
    obtain ⟨q2, eq2, hN⟩ := hb_some hN
    obtain ⟨h3, eh3, R⟩ := n_Mo_five R eq2
    refine ex_b eh3 ?_
    refine ex_if (fun c4 => ?_) (fun c4 => ?_)
    · have hN := hif_t hN c4
      obtain rfl := Option.some.inj hN
      exact ⟨_, rfl, R⟩
    · have hN := hif_f hN c4
      obtain ⟨q5, eq5, hN⟩ := hb_some hN
      obtain ⟨h6, eh6, R⟩ := n_Mo_five R eq5
      refine ex_b eh6 ?_
      refine ex_if (fun c7 => ?_) (fun c7 => ?_)
      · have hN := hif_t hN c7
        obtain rfl := Option.some.inj hN
        exact ⟨_, rfl, R⟩
      · have hN := hif_f hN c7
        obtain ⟨q8, eq8, hN⟩ := hb_some hN
        obtain ⟨h9, eh9, R⟩ := n_Mo_five R eq8
        refine ex_b eh9 ?_
        refine ex_if (fun c10 => ?_) (fun c10 => ?_)
        · have hN := hif_t hN c10
          obtain rfl := Option.some.inj hN
          exact ⟨_, rfl, R⟩
        · have hN := hif_f hN c10
          obtain ⟨q11, eq11, hN⟩ := hb_some hN
          obtain ⟨h12, eh12, R⟩ := n_Mo_five R eq11
          refine ex_b eh12 ?_
          refine ex_if (fun c13 => ?_) (fun c13 => ?_)
          · have hN := hif_t hN c13
            obtain rfl := Option.some.inj hN
            exact ⟨_, rfl, R⟩
          · have hN := hif_f hN c13
            obtain ⟨q14, eq14, hN⟩ := hb_some hN
            obtain ⟨h15, eh15, R⟩ := n_Mo_five R eq14
            refine ex_b eh15 ?_
            refine ex_if (fun c16 => ?_) (fun c16 => ?_)
            · have hN := hif_t hN c16
              obtain rfl := Option.some.inj hN
              exact ⟨_, rfl, R⟩
            · have hN := hif_f hN c16
              obtain ⟨q17, eq17, hN⟩ := hb_some hN
              obtain ⟨h18, eh18, R⟩ := n_Mo_five R eq17
              refine ex_b eh18 ?_
              refine ex_if (fun c19 => ?_) (fun c19 => ?_)
              · have hN := hif_t hN c19
                obtain rfl := Option.some.inj hN
                exact ⟨_, rfl, R⟩
              · have hN := hif_f hN c19
                obtain ⟨q20, eq20, hN⟩ := hb_some hN
                obtain ⟨h21, eh21, R⟩ := n_Mo_five R eq20
                refine ex_b eh21 ?_
                refine ex_if (fun c22 => ?_) (fun c22 => ?_)
                · have hN := hif_t hN c22
                  obtain rfl := Option.some.inj hN
                  exact ⟨_, rfl, R⟩
                · have hN := hif_f hN c22
                  obtain rfl := Option.some.inj hN
                  exact ⟨_, rfl, R⟩
  · have hN := hif_f hN c1
    refine ex_b (rGetA R (k := 1) rfl) ?_
    obtain ⟨c23, hN⟩ := hnz hN
    refine ex_b (rLdI R (k := 1) rfl c23) ?_
    refine ex_if (fun c24 => ?_) (fun c24 => ?_)
    · have hN := hif_t hN c24
      exact n_Mo_nameOf_93 P68 _ _ _ _ _ _ _ R hN
    · have hN := hif_f hN c24
      exact n_Mo_nameOf_93 P68 _ _ _ _ _ _ _ R hN
theorem n_Mo_nameOf_68 {ad : Nat → Nat} {m F : Nat} : ∀ z : Nat, ∀ (h : hH) (s : MS) (x1 : Int32) (x2 : Int32) (x3 : Int64) (x5 : Int32) (q : (Int32 × MS)), RepM ad m h s → N_Mo_nameOf_68 F z s x1 x2 x3 x5 = some q → ∃ h2, M_Mo_nameOf_68 F z h m x1 x2 x3 x5 = some (q.1, h2) ∧ RepM ad m h2 q.2 := by
  intro z
  induction z with
  | zero => intro h s x1 x2 x3 x5 q R hN; exact absurd (show (none : Option _) = some q from hN) (fun t => by cases t)
  | succ z ih => exact bn_Mo_nameOf_68 ih
set_option maxHeartbeats 1000000 in
set_option maxRecDepth 100000 in
theorem n_Mo_nameOf_65 {ad : Nat → Nat} {m F : Nat} : ∀ (h : hH) (s : MS) (x1 : Int32) (x2 : Int32) (x3 : Int64) (q : (Int32 × MS)), RepM ad m h s → N_Mo_nameOf_65 F s x1 x2 x3 = some q → ∃ h2, M_Mo_nameOf_65 F h m x1 x2 x3 = some (q.1, h2) ∧ RepM ad m h2 q.2 := by
  intro h s x1 x2 x3 q R hN
  unfold N_Mo_nameOf_65 at hN
  unfold M_Mo_nameOf_65
  exact n_Mo_nameOf_68 F _ _ _ _ _ _ _ R hN
set_option maxHeartbeats 1000000 in
set_option maxRecDepth 100000 in
theorem n_Mo_nameOf_56 {ad : Nat → Nat} {m F : Nat} {m16 : hH → Nat → Int32 → Int32 → Int64 → Int32 → Option (Int32 × hH)} {r16 : MS → Int32 → Int32 → Int64 → Int32 → Option (Int32 × MS)} (P16 : ∀ (h : hH) (s : MS) (x1 : Int32) (x2 : Int32) (x3 : Int64) (x5 : Int32) (q : (Int32 × MS)), RepM ad m h s → r16 s x1 x2 x3 x5 = some q → ∃ h2, m16 h m x1 x2 x3 x5 = some (q.1, h2) ∧ RepM ad m h2 q.2) : ∀ (h : hH) (s : MS) (x1 : Int32) (x2 : Int32) (x5 : Int32) (s0 : Int64) (s1 : Int32) (q : (Int32 × MS)), RepM ad m h s → N_Mo_nameOf_56 F r16 s x1 x2 x5 s0 s1 = some q → ∃ h2, M_Mo_nameOf_56 F m16 h m x1 x2 x5 s0 s1 = some (q.1, h2) ∧ RepM ad m h2 q.2 := by
  intro h s x1 x2 x5 s0 s1 q R hN
  unfold N_Mo_nameOf_56 at hN
  unfold M_Mo_nameOf_56
  exact P16 _ _ _ _ _ _ _ R hN
set_option maxHeartbeats 1000000 in
set_option maxRecDepth 100000 in
theorem bn_Mo_nameOf_16 {ad : Nat → Nat} {m F : Nat} {m16 : hH → Nat → Int32 → Int32 → Int64 → Int32 → Option (Int32 × hH)} {r16 : MS → Int32 → Int32 → Int64 → Int32 → Option (Int32 × MS)} (P16 : ∀ (h : hH) (s : MS) (x1 : Int32) (x2 : Int32) (x3 : Int64) (x5 : Int32) (q : (Int32 × MS)), RepM ad m h s → r16 s x1 x2 x3 x5 = some q → ∃ h2, m16 h m x1 x2 x3 x5 = some (q.1, h2) ∧ RepM ad m h2 q.2) : ∀ (h : hH) (s : MS) (x1 : Int32) (x2 : Int32) (x3 : Int64) (x5 : Int32) (q : (Int32 × MS)), RepM ad m h s → BN_Mo_nameOf_16 F r16 s x1 x2 x3 x5 = some q → ∃ h2, B_Mo_nameOf_16 F m16 h m x1 x2 x3 x5 = some (q.1, h2) ∧ RepM ad m h2 q.2 := by
  intro h s x1 x2 x3 x5 q R hN
  unfold BN_Mo_nameOf_16 at hN
  unfold B_Mo_nameOf_16
  refine ex_if (fun c1 => ?_) (fun c1 => ?_)
  · have hN := hif_t hN c1
    exact n_Mo_nameOf_65 _ _ _ _ _ _ R hN
  · have hN := hif_f hN c1
    refine ex_if (fun c2 => ?_) (fun c2 => ?_)
    · have hN := hif_t hN c2
      exact n_Mo_nameOf_65 _ _ _ _ _ _ R hN
    · have hN := hif_f hN c2
      refine ex_if (fun c3 => ?_) (fun c3 => ?_)
      · have hN := hif_t hN c3
        exact n_Mo_nameOf_56 P16 _ _ _ _ _ _ _ _ R hN
      · have hN := hif_f hN c3
        refine ex_b (rGetA R (k := 1) rfl) ?_
        obtain ⟨c4, hN⟩ := hnz hN
        refine ex_b (rLdI R (k := 1) rfl c4) ?_
        exact n_Mo_nameOf_56 P16 _ _ _ _ _ _ _ _ R hN
theorem n_Mo_nameOf_16 {ad : Nat → Nat} {m F : Nat} : ∀ z : Nat, ∀ (h : hH) (s : MS) (x1 : Int32) (x2 : Int32) (x3 : Int64) (x5 : Int32) (q : (Int32 × MS)), RepM ad m h s → N_Mo_nameOf_16 F z s x1 x2 x3 x5 = some q → ∃ h2, M_Mo_nameOf_16 F z h m x1 x2 x3 x5 = some (q.1, h2) ∧ RepM ad m h2 q.2 := by
  intro z
  induction z with
  | zero => intro h s x1 x2 x3 x5 q R hN; exact absurd (show (none : Option _) = some q from hN) (fun t => by cases t)
  | succ z ih => exact bn_Mo_nameOf_16 ih
set_option maxHeartbeats 1000000 in
set_option maxRecDepth 100000 in
theorem n_Mo_nameOf_12 {ad : Nat → Nat} {m F : Nat} : ∀ (h : hH) (s : MS) (x1 : Int32) (x2 : Int32) (s0 : Int64) (q : (Int32 × MS)), RepM ad m h s → N_Mo_nameOf_12 F s x1 x2 s0 = some q → ∃ h2, M_Mo_nameOf_12 F h m x1 x2 s0 = some (q.1, h2) ∧ RepM ad m h2 q.2 := by
  intro h s x1 x2 s0 q R hN
  unfold N_Mo_nameOf_12 at hN
  unfold M_Mo_nameOf_12
  exact n_Mo_nameOf_16 F _ _ _ _ _ _ _ R hN
set_option maxHeartbeats 1000000 in
set_option maxRecDepth 100000 in
theorem n_Mo_nameOf {ad : Nat → Nat} {m F : Nat} {h : hH} {s : MS} {x1 : Int32} {x2 : Int32} {q : (Int32 × MS)} (R : RepM ad m h s) (hN : N_Mo_nameOf F s x1 x2 = some q) : ∃ h2, M_Mo_nameOf F h m x1 x2 = some (q.1, h2) ∧ RepM ad m h2 q.2 := by
  unfold N_Mo_nameOf at hN
  unfold M_Mo_nameOf
  refine ex_if (fun c1 => ?_) (fun c1 => ?_)
  · have hN := hif_t hN c1
    exact n_Mo_nameOf_12 _ _ _ _ _ _ R hN
  · have hN := hif_f hN c1
    exact n_Mo_nameOf_12 _ _ _ _ _ _ R hN
set_option maxHeartbeats 1000000 in
set_option maxRecDepth 100000 in
theorem n_Mo_wordOf_141 {ad : Nat → Nat} {m F : Nat} : ∀ (h : hH) (s : MS) (x1 : Int32) (x2 : Int32) (s0 : Int32) (q : (Int32 × MS)), RepM ad m h s → N_Mo_wordOf_141 F s x1 x2 s0 = some q → ∃ h2, M_Mo_wordOf_141 F h m x1 x2 s0 = some (q.1, h2) ∧ RepM ad m h2 q.2 := by
  intro h s x1 x2 s0 q R hN
  unfold N_Mo_wordOf_141 at hN
  unfold M_Mo_wordOf_141
  refine ex_if (fun c1 => ?_) (fun c1 => ?_)
  · have hN := hif_t hN c1
    obtain rfl := Option.some.inj hN
    exact ⟨_, rfl, R⟩
  · have hN := hif_f hN c1
    refine ex_if (fun c2 => ?_) (fun c2 => ?_)
    · have hN := hif_t hN c2
      obtain rfl := Option.some.inj hN
      exact ⟨_, rfl, R⟩
    · have hN := hif_f hN c2
      refine ex_if (fun c3 => ?_) (fun c3 => ?_)
      · have hN := hif_t hN c3
        obtain rfl := Option.some.inj hN
        exact ⟨_, rfl, R⟩
      · have hN := hif_f hN c3
        refine ex_if (fun c4 => ?_) (fun c4 => ?_)
        · have hN := hif_t hN c4
          obtain rfl := Option.some.inj hN
          exact ⟨_, rfl, R⟩
        · have hN := hif_f hN c4
          refine ex_if (fun c5 => ?_) (fun c5 => ?_)
          · have hN := hif_t hN c5
            obtain rfl := Option.some.inj hN
            exact ⟨_, rfl, R⟩
          · have hN := hif_f hN c5
            refine ex_if (fun c6 => ?_) (fun c6 => ?_)
            · have hN := hif_t hN c6
              obtain rfl := Option.some.inj hN
              exact ⟨_, rfl, R⟩
            · have hN := hif_f hN c6
              refine ex_if (fun c7 => ?_) (fun c7 => ?_)
              · have hN := hif_t hN c7
                obtain rfl := Option.some.inj hN
                exact ⟨_, rfl, R⟩
              · have hN := hif_f hN c7
                refine ex_if (fun c8 => ?_) (fun c8 => ?_)
                · have hN := hif_t hN c8
                  obtain rfl := Option.some.inj hN
                  exact ⟨_, rfl, R⟩
                · have hN := hif_f hN c8
                  refine ex_if (fun c9 => ?_) (fun c9 => ?_)
                  · have hN := hif_t hN c9
                    obtain rfl := Option.some.inj hN
                    exact ⟨_, rfl, R⟩
                  · have hN := hif_f hN c9
                    refine ex_if (fun c10 => ?_) (fun c10 => ?_)
                    · have hN := hif_t hN c10
                      obtain rfl := Option.some.inj hN
                      exact ⟨_, rfl, R⟩
                    · have hN := hif_f hN c10
                      refine ex_if (fun c11 => ?_) (fun c11 => ?_)
                      · have hN := hif_t hN c11
                        obtain rfl := Option.some.inj hN
                        exact ⟨_, rfl, R⟩
                      · have hN := hif_f hN c11
                        refine ex_if (fun c12 => ?_) (fun c12 => ?_)
                        · have hN := hif_t hN c12
                          obtain rfl := Option.some.inj hN
                          exact ⟨_, rfl, R⟩
                        · have hN := hif_f hN c12
                          obtain ⟨q13, eq13, hN⟩ := hb_some hN
                          refine ex_b (rIs R) ?_
                          obtain ⟨h14, eh14, R⟩ := n_Mo_nameOf R eq13
                          refine ex_b eh14 ?_
                          obtain rfl := Option.some.inj hN
                          exact ⟨_, rfl, R⟩
set_option maxHeartbeats 1000000 in
set_option maxRecDepth 100000 in
theorem n_Mo_wordOf_140 {ad : Nat → Nat} {m F : Nat} : ∀ (h : hH) (s : MS) (x1 : Int32) (x2 : Int32) (q : (Int32 × MS)), RepM ad m h s → N_Mo_wordOf_140 F s x1 x2 = some q → ∃ h2, M_Mo_wordOf_140 F h m x1 x2 = some (q.1, h2) ∧ RepM ad m h2 q.2 := by
  intro h s x1 x2 q R hN
  unfold N_Mo_wordOf_140 at hN
  unfold M_Mo_wordOf_140
  exact n_Mo_wordOf_141 _ _ _ _ _ _ R hN
set_option maxHeartbeats 1000000 in
set_option maxRecDepth 100000 in
theorem n_Mo_wordOf_88 {ad : Nat → Nat} {m F : Nat} : ∀ (h : hH) (s : MS) (x1 : Int32) (x2 : Int32) (x3 : Int32) (x4 : Int32) (q : (Int32 × MS)), RepM ad m h s → N_Mo_wordOf_88 F s x1 x2 x3 x4 = some q → ∃ h2, M_Mo_wordOf_88 F h m x1 x2 x3 x4 = some (q.1, h2) ∧ RepM ad m h2 q.2 := by
  intro h s x1 x2 x3 x4 q R hN
  unfold N_Mo_wordOf_88 at hN
  unfold M_Mo_wordOf_88
  refine ex_if (fun c1 => ?_) (fun c1 => ?_)
  · have hN := hif_t hN c1
    refine ex_if (fun c2 => ?_) (fun c2 => ?_)
    · have hN := hif_t hN c2
      refine ex_b (rGetA R (k := 1) rfl) ?_
      obtain ⟨c7, hN⟩ := hnz hN
      refine ex_b (rLdI R (k := 1) rfl c7) ?_
      exact n_Mo_wordOf_141 _ _ _ _ _ _ R hN
    · have hN := hif_f hN c2
      refine ex_if (fun c3 => ?_) (fun c3 => ?_)
      · have hN := hif_t hN c3
        refine ex_b (rGetA R (k := 1) rfl) ?_
        obtain ⟨c4, hN⟩ := hnz hN
        refine ex_b (rLdI R (k := 1) rfl c4) ?_
        refine ex_if (fun c5 => ?_) (fun c5 => ?_)
        · have hN := hif_t hN c5
          refine ex_b (rGetA R (k := 1) rfl) ?_
          obtain ⟨c6, hN⟩ := hnz hN
          refine ex_b (rLdI R (k := 1) rfl c6) ?_
          exact n_Mo_wordOf_141 _ _ _ _ _ _ R hN
        · have hN := hif_f hN c5
          exact n_Mo_wordOf_140 _ _ _ _ _ R hN
      · have hN := hif_f hN c3
        exact n_Mo_wordOf_140 _ _ _ _ _ R hN
  · have hN := hif_f hN c1
    obtain rfl := Option.some.inj hN
    exact ⟨_, rfl, R⟩
set_option maxHeartbeats 1000000 in
set_option maxRecDepth 100000 in
theorem n_Mo_wordOf_61 {ad : Nat → Nat} {m F : Nat} {m18 : hH → Nat → Int32 → Int32 → Int32 → Int32 → Int32 → Option (Int32 × hH)} {r18 : MS → Int32 → Int32 → Int32 → Int32 → Int32 → Option (Int32 × MS)} (P18 : ∀ (h : hH) (s : MS) (x1 : Int32) (x2 : Int32) (x3 : Int32) (x4 : Int32) (x5 : Int32) (q : (Int32 × MS)), RepM ad m h s → r18 s x1 x2 x3 x4 x5 = some q → ∃ h2, m18 h m x1 x2 x3 x4 x5 = some (q.1, h2) ∧ RepM ad m h2 q.2) : ∀ (h : hH) (s : MS) (x1 : Int32) (x2 : Int32) (x4 : Int32) (x5 : Int32) (s0 : Int32) (q : (Int32 × MS)), RepM ad m h s → N_Mo_wordOf_61 F r18 s x1 x2 x4 x5 s0 = some q → ∃ h2, M_Mo_wordOf_61 F m18 h m x1 x2 x4 x5 s0 = some (q.1, h2) ∧ RepM ad m h2 q.2 := by
  intro h s x1 x2 x4 x5 s0 q R hN
  unfold N_Mo_wordOf_61 at hN
  unfold M_Mo_wordOf_61
  refine ex_b (rGetA R (k := 1) rfl) ?_
  obtain ⟨c1, hN⟩ := hnz hN
  refine ex_b (rLdI R (k := 1) rfl c1) ?_
  exact P18 _ _ _ _ _ _ _ _ R hN
set_option maxHeartbeats 1000000 in
set_option maxRecDepth 100000 in
theorem n_Mo_wordOf_60 {ad : Nat → Nat} {m F : Nat} {m18 : hH → Nat → Int32 → Int32 → Int32 → Int32 → Int32 → Option (Int32 × hH)} {r18 : MS → Int32 → Int32 → Int32 → Int32 → Int32 → Option (Int32 × MS)} (P18 : ∀ (h : hH) (s : MS) (x1 : Int32) (x2 : Int32) (x3 : Int32) (x4 : Int32) (x5 : Int32) (q : (Int32 × MS)), RepM ad m h s → r18 s x1 x2 x3 x4 x5 = some q → ∃ h2, m18 h m x1 x2 x3 x4 x5 = some (q.1, h2) ∧ RepM ad m h2 q.2) : ∀ (h : hH) (s : MS) (x1 : Int32) (x2 : Int32) (x4 : Int32) (x5 : Int32) (q : (Int32 × MS)), RepM ad m h s → N_Mo_wordOf_60 F r18 s x1 x2 x4 x5 = some q → ∃ h2, M_Mo_wordOf_60 F m18 h m x1 x2 x4 x5 = some (q.1, h2) ∧ RepM ad m h2 q.2 := by
  intro h s x1 x2 x4 x5 q R hN
  unfold N_Mo_wordOf_60 at hN
  unfold M_Mo_wordOf_60
  exact n_Mo_wordOf_61 P18 _ _ _ _ _ _ _ _ R hN
set_option maxHeartbeats 1000000 in
set_option maxRecDepth 100000 in
theorem bn_Mo_wordOf_18 {ad : Nat → Nat} {m F : Nat} {m18 : hH → Nat → Int32 → Int32 → Int32 → Int32 → Int32 → Option (Int32 × hH)} {r18 : MS → Int32 → Int32 → Int32 → Int32 → Int32 → Option (Int32 × MS)} (P18 : ∀ (h : hH) (s : MS) (x1 : Int32) (x2 : Int32) (x3 : Int32) (x4 : Int32) (x5 : Int32) (q : (Int32 × MS)), RepM ad m h s → r18 s x1 x2 x3 x4 x5 = some q → ∃ h2, m18 h m x1 x2 x3 x4 x5 = some (q.1, h2) ∧ RepM ad m h2 q.2) : ∀ (h : hH) (s : MS) (x1 : Int32) (x2 : Int32) (x3 : Int32) (x4 : Int32) (x5 : Int32) (q : (Int32 × MS)), RepM ad m h s → BN_Mo_wordOf_18 F r18 s x1 x2 x3 x4 x5 = some q → ∃ h2, B_Mo_wordOf_18 F m18 h m x1 x2 x3 x4 x5 = some (q.1, h2) ∧ RepM ad m h2 q.2 := by
  intro h s x1 x2 x3 x4 x5 q R hN
  unfold BN_Mo_wordOf_18 at hN
  unfold B_Mo_wordOf_18
  refine ex_if (fun c1 => ?_) (fun c1 => ?_)
  · have hN := hif_t hN c1
    exact n_Mo_wordOf_88 _ _ _ _ _ _ _ R hN
  · have hN := hif_f hN c1
    refine ex_if (fun c2 => ?_) (fun c2 => ?_)
    · have hN := hif_t hN c2
      exact n_Mo_wordOf_88 _ _ _ _ _ _ _ R hN
    · have hN := hif_f hN c2
      refine ex_b (rGetA R (k := 1) rfl) ?_
      obtain ⟨c3, hN⟩ := hnz hN
      refine ex_b (rLdI R (k := 1) rfl c3) ?_
      refine ex_if (fun c4 => ?_) (fun c4 => ?_)
      · have hN := hif_t hN c4
        exact n_Mo_wordOf_60 P18 _ _ _ _ _ _ _ R hN
      · have hN := hif_f hN c4
        refine ex_b (rGetA R (k := 1) rfl) ?_
        obtain ⟨c5, hN⟩ := hnz hN
        refine ex_b (rLdI R (k := 1) rfl c5) ?_
        refine ex_if (fun c6 => ?_) (fun c6 => ?_)
        · have hN := hif_t hN c6
          exact n_Mo_wordOf_60 P18 _ _ _ _ _ _ _ R hN
        · have hN := hif_f hN c6
          exact n_Mo_wordOf_61 P18 _ _ _ _ _ _ _ _ R hN
theorem n_Mo_wordOf_18 {ad : Nat → Nat} {m F : Nat} : ∀ z : Nat, ∀ (h : hH) (s : MS) (x1 : Int32) (x2 : Int32) (x3 : Int32) (x4 : Int32) (x5 : Int32) (q : (Int32 × MS)), RepM ad m h s → N_Mo_wordOf_18 F z s x1 x2 x3 x4 x5 = some q → ∃ h2, M_Mo_wordOf_18 F z h m x1 x2 x3 x4 x5 = some (q.1, h2) ∧ RepM ad m h2 q.2 := by
  intro z
  induction z with
  | zero => intro h s x1 x2 x3 x4 x5 q R hN; exact absurd (show (none : Option _) = some q from hN) (fun t => by cases t)
  | succ z ih => exact bn_Mo_wordOf_18 ih
set_option maxHeartbeats 1000000 in
set_option maxRecDepth 100000 in
theorem n_Mo_wordOf_11 {ad : Nat → Nat} {m F : Nat} : ∀ (h : hH) (s : MS) (x1 : Int32) (x2 : Int32) (s0 : Int32) (q : (Int32 × MS)), RepM ad m h s → N_Mo_wordOf_11 F s x1 x2 s0 = some q → ∃ h2, M_Mo_wordOf_11 F h m x1 x2 s0 = some (q.1, h2) ∧ RepM ad m h2 q.2 := by
  intro h s x1 x2 s0 q R hN
  unfold N_Mo_wordOf_11 at hN
  unfold M_Mo_wordOf_11
  exact n_Mo_wordOf_18 F _ _ _ _ _ _ _ _ R hN
set_option maxHeartbeats 1000000 in
set_option maxRecDepth 100000 in
theorem n_Mo_wordOf {ad : Nat → Nat} {m F : Nat} {h : hH} {s : MS} {x1 : Int32} {x2 : Int32} {q : (Int32 × MS)} (R : RepM ad m h s) (hN : N_Mo_wordOf F s x1 x2 = some q) : ∃ h2, M_Mo_wordOf F h m x1 x2 = some (q.1, h2) ∧ RepM ad m h2 q.2 := by
  unfold N_Mo_wordOf at hN
  unfold M_Mo_wordOf
  refine ex_if (fun c1 => ?_) (fun c1 => ?_)
  · have hN := hif_t hN c1
    exact n_Mo_wordOf_11 _ _ _ _ _ _ R hN
  · have hN := hif_f hN c1
    exact n_Mo_wordOf_11 _ _ _ _ _ _ R hN
set_option maxHeartbeats 1000000 in
set_option maxRecDepth 100000 in
theorem n_Mo_isBlank {ad : Nat → Nat} {m F : Nat} {h : hH} {s : MS} {x0 : Int32} {q : (Int32 × MS)} (R : RepM ad m h s) (hN : N_Mo_isBlank F s x0 = some q) : ∃ h2, M_Mo_isBlank F h x0 = some (q.1, h2) ∧ RepM ad m h2 q.2 := by
  unfold N_Mo_isBlank at hN
  unfold M_Mo_isBlank
  refine ex_if (fun c1 => ?_) (fun c1 => ?_)
  · have hN := hif_t hN c1
    obtain rfl := Option.some.inj hN
    exact ⟨_, rfl, R⟩
  · have hN := hif_f hN c1
    refine ex_if (fun c2 => ?_) (fun c2 => ?_)
    · have hN := hif_t hN c2
      obtain rfl := Option.some.inj hN
      exact ⟨_, rfl, R⟩
    · have hN := hif_f hN c2
      obtain rfl := Option.some.inj hN
      exact ⟨_, rfl, R⟩
set_option maxHeartbeats 1000000 in
set_option maxRecDepth 100000 in
theorem bn_Mo_split_123 {ad : Nat → Nat} {m F : Nat} {m123 : hH → Nat → Int32 → Option hH} {r123 : MS → Int32 → Option MS} (P123 : ∀ (h : hH) (s : MS) (x3 : Int32) (q : MS), RepM ad m h s → r123 s x3 = some q → ∃ h2, m123 h m x3 = some h2 ∧ RepM ad m h2 q) : ∀ (h : hH) (s : MS) (x3 : Int32) (q : MS), RepM ad m h s → BN_Mo_split_123 F r123 s x3 = some q → ∃ h2, B_Mo_split_123 F m123 h m x3 = some h2 ∧ RepM ad m h2 q := by
  intro h s x3 q R hN
  unfold BN_Mo_split_123 at hN
  unfold B_Mo_split_123
  refine ev_b (rGetI R (k := 2) rfl) ?_
  refine ev_if (fun c1 => ?_) (fun c1 => ?_)
  · have hN := hif_t hN c1
    obtain rfl := Option.some.inj hN
    exact ⟨_, rfl, R⟩
  · have hN := hif_f hN c1
    refine ev_b (rGetA R (k := 5) rfl) ?_
    refine ev_b (rGetI R (k := 22) rfl) ?_
    refine ev_b (rGetA R (k := 1) rfl) ?_
    obtain ⟨c2, hN⟩ := hnz hN
    refine ev_b (rLdI R (k := 1) rfl c2) ?_
    obtain ⟨c3, hN⟩ := hnz hN
    obtain ⟨y4, ey4, hN⟩ := hb_some hN
    obtain ⟨h5, eh5, R⟩ := rStB R (k := 5) (x := s.2.1 1 x3.toNatClampNeg) rfl c3
    rw [Option.some.inj ey4] at R
    refine ev_b eh5 ?_
    exact P123 _ _ _ _ R hN
theorem n_Mo_split_123 {ad : Nat → Nat} {m F : Nat} : ∀ z : Nat, ∀ (h : hH) (s : MS) (x3 : Int32) (q : MS), RepM ad m h s → N_Mo_split_123 F z s x3 = some q → ∃ h2, M_Mo_split_123 F z h m x3 = some h2 ∧ RepM ad m h2 q := by
  intro z
  induction z with
  | zero => intro h s x3 q R hN; exact absurd (show (none : Option _) = some q from hN) (fun t => by cases t)
  | succ z ih => exact bn_Mo_split_123 ih
set_option maxHeartbeats 1000000 in
set_option maxRecDepth 100000 in
theorem n_Mo_split_105 {ad : Nat → Nat} {m F : Nat} {m4 : hH → Nat → Int32 → Int32 → Option hH} {r4 : MS → Int32 → Int32 → Option MS} (P4 : ∀ (h : hH) (s : MS) (x1 : Int32) (x2 : Int32) (q : MS), RepM ad m h s → r4 s x1 x2 = some q → ∃ h2, m4 h m x1 x2 = some h2 ∧ RepM ad m h2 q) : ∀ (h : hH) (s : MS) (x1 : Int32) (x2 : Int32) (q : MS), RepM ad m h s → N_Mo_split_105 F r4 s x1 x2 = some q → ∃ h2, M_Mo_split_105 F m4 h m x1 x2 = some h2 ∧ RepM ad m h2 q := by
  intro h s x1 x2 q R hN
  unfold N_Mo_split_105 at hN
  unfold M_Mo_split_105
  exact P4 _ _ _ _ _ R hN
set_option maxHeartbeats 1000000 in
set_option maxRecDepth 100000 in
theorem n_Mo_split_40 {ad : Nat → Nat} {m F : Nat} {m4 : hH → Nat → Int32 → Int32 → Option hH} {r4 : MS → Int32 → Int32 → Option MS} (P4 : ∀ (h : hH) (s : MS) (x1 : Int32) (x2 : Int32) (q : MS), RepM ad m h s → r4 s x1 x2 = some q → ∃ h2, m4 h m x1 x2 = some h2 ∧ RepM ad m h2 q) : ∀ (h : hH) (s : MS) (x1 : Int32) (x2 : Int32) (x3 : Int32) (q : MS), RepM ad m h s → N_Mo_split_40 F r4 s x1 x2 x3 = some q → ∃ h2, M_Mo_split_40 F m4 h m x1 x2 x3 = some h2 ∧ RepM ad m h2 q := by
  intro h s x1 x2 x3 q R hN
  unfold N_Mo_split_40 at hN
  unfold M_Mo_split_40
  refine ev_if (fun c1 => ?_) (fun c1 => ?_)
  · have hN := hif_t hN c1
    exact n_Mo_split_105 P4 _ _ _ _ _ R hN
  · have hN := hif_f hN c1
    refine ev_b (rGetA R (k := 6) rfl) ?_
    refine ev_b (rGetI R (k := 22) rfl) ?_
    obtain ⟨c2, hN⟩ := hnz hN
    obtain ⟨y3, ey3, hN⟩ := hb_some hN
    obtain ⟨h4, eh4, R⟩ := rStI R (k := 6) (x := x3) rfl c2
    rw [Option.some.inj ey3] at R
    refine ev_b eh4 ?_
    refine ev_b (rGetA R (k := 7) rfl) ?_
    refine ev_b (rGetI R (k := 22) rfl) ?_
    obtain ⟨c5, hN⟩ := hnz hN
    obtain ⟨y6, ey6, hN⟩ := hb_some hN
    obtain ⟨h7, eh7, R⟩ := rStI R (k := 7) (x := x2 - x3) rfl c5
    rw [Option.some.inj ey6] at R
    refine ev_b eh7 ?_
    refine ev_b (rGetA R (k := 8) rfl) ?_
    refine ev_b (rGetI R (k := 22) rfl) ?_
    obtain ⟨q8, eq8, hN⟩ := hb_some hN
    refine ev_b (rIs R) ?_
    obtain ⟨h9, eh9, R⟩ := n_Mo_wordOf R eq8
    refine ev_b eh9 ?_
    obtain ⟨c10, hN⟩ := hnz hN
    obtain ⟨y11, ey11, hN⟩ := hb_some hN
    obtain ⟨h12, eh12, R⟩ := rStI R (k := 8) (x := q8.1) rfl c10
    rw [Option.some.inj ey11] at R
    refine ev_b eh12 ?_
    exact n_Mo_split_105 P4 _ _ _ _ _ R hN
set_option maxHeartbeats 1000000 in
set_option maxRecDepth 100000 in
theorem bn_Mo_split_14 {ad : Nat → Nat} {m F : Nat} {m4 : hH → Nat → Int32 → Int32 → Option hH} {r4 : MS → Int32 → Int32 → Option MS} (P4 : ∀ (h : hH) (s : MS) (x1 : Int32) (x2 : Int32) (q : MS), RepM ad m h s → r4 s x1 x2 = some q → ∃ h2, m4 h m x1 x2 = some h2 ∧ RepM ad m h2 q) {m14 : hH → Nat → Int32 → Int32 → Int32 → Option hH} {r14 : MS → Int32 → Int32 → Int32 → Option MS} (P14 : ∀ (h : hH) (s : MS) (x1 : Int32) (x2 : Int32) (x3 : Int32) (q : MS), RepM ad m h s → r14 s x1 x2 x3 = some q → ∃ h2, m14 h m x1 x2 x3 = some h2 ∧ RepM ad m h2 q) : ∀ (h : hH) (s : MS) (x1 : Int32) (x2 : Int32) (x3 : Int32) (q : MS), RepM ad m h s → BN_Mo_split_14 F r4 r14 s x1 x2 x3 = some q → ∃ h2, B_Mo_split_14 F m4 m14 h m x1 x2 x3 = some h2 ∧ RepM ad m h2 q := by
  intro h s x1 x2 x3 q R hN
  unfold BN_Mo_split_14 at hN
  unfold B_Mo_split_14
  refine ev_b (rGetI R (k := 2) rfl) ?_
  refine ev_if (fun c1 => ?_) (fun c1 => ?_)
  · have hN := hif_t hN c1
    exact n_Mo_split_40 P4 _ _ _ _ _ _ R hN
  · have hN := hif_f hN c1
    refine ev_b (rGetA R (k := 1) rfl) ?_
    obtain ⟨c2, hN⟩ := hnz hN
    refine ev_b (rLdI R (k := 1) rfl c2) ?_
    obtain ⟨q3, eq3, hN⟩ := hb_some hN
    obtain ⟨h4, eh4, R⟩ := n_Mo_isBlank R eq3
    refine ev_b eh4 ?_
    refine ev_if (fun c5 => ?_) (fun c5 => ?_)
    · have hN := hif_t hN c5
      exact P14 _ _ _ _ _ _ R hN
    · have hN := hif_f hN c5
      exact n_Mo_split_40 P4 _ _ _ _ _ _ R hN
theorem n_Mo_split_14 {ad : Nat → Nat} {m F : Nat} {m4 : hH → Nat → Int32 → Int32 → Option hH} {r4 : MS → Int32 → Int32 → Option MS} (P4 : ∀ (h : hH) (s : MS) (x1 : Int32) (x2 : Int32) (q : MS), RepM ad m h s → r4 s x1 x2 = some q → ∃ h2, m4 h m x1 x2 = some h2 ∧ RepM ad m h2 q) : ∀ z : Nat, ∀ (h : hH) (s : MS) (x1 : Int32) (x2 : Int32) (x3 : Int32) (q : MS), RepM ad m h s → N_Mo_split_14 F r4 z s x1 x2 x3 = some q → ∃ h2, M_Mo_split_14 F m4 z h m x1 x2 x3 = some h2 ∧ RepM ad m h2 q := by
  intro z
  induction z with
  | zero => intro h s x1 x2 x3 q R hN; exact absurd (show (none : Option _) = some q from hN) (fun t => by cases t)
  | succ z ih => exact bn_Mo_split_14 P4 ih
set_option maxHeartbeats 1000000 in
set_option maxRecDepth 100000 in
theorem bn_Mo_split_4 {ad : Nat → Nat} {m F : Nat} {m4 : hH → Nat → Int32 → Int32 → Option hH} {r4 : MS → Int32 → Int32 → Option MS} (P4 : ∀ (h : hH) (s : MS) (x1 : Int32) (x2 : Int32) (q : MS), RepM ad m h s → r4 s x1 x2 = some q → ∃ h2, m4 h m x1 x2 = some h2 ∧ RepM ad m h2 q) : ∀ (h : hH) (s : MS) (x1 : Int32) (x2 : Int32) (q : MS), RepM ad m h s → BN_Mo_split_4 F r4 s x1 x2 = some q → ∃ h2, B_Mo_split_4 F m4 h m x1 x2 = some h2 ∧ RepM ad m h2 q := by
  intro h s x1 x2 q R hN
  unfold BN_Mo_split_4 at hN
  unfold B_Mo_split_4
  refine ev_b (rGetI R (k := 2) rfl) ?_
  refine ev_if (fun c1 => ?_) (fun c1 => ?_)
  · have hN := hif_t hN c1
    refine ev_b (rGetA R (k := 9) rfl) ?_
    refine ev_b (rGetI R (k := 22) rfl) ?_
    obtain ⟨c2, hN⟩ := hnz hN
    obtain ⟨y3, ey3, hN⟩ := hb_some hN
    obtain ⟨h4, eh4, R⟩ := rStI R (k := 9) (x := x1) rfl c2
    rw [Option.some.inj ey3] at R
    refine ev_b eh4 ?_
    exact n_Mo_split_123 F _ _ _ _ R hN
  · have hN := hif_f hN c1
    exact n_Mo_split_14 P4 F _ _ _ _ _ _ R hN
theorem n_Mo_split_4 {ad : Nat → Nat} {m F : Nat} : ∀ z : Nat, ∀ (h : hH) (s : MS) (x1 : Int32) (x2 : Int32) (q : MS), RepM ad m h s → N_Mo_split_4 F z s x1 x2 = some q → ∃ h2, M_Mo_split_4 F z h m x1 x2 = some h2 ∧ RepM ad m h2 q := by
  intro z
  induction z with
  | zero => intro h s x1 x2 q R hN; exact absurd (show (none : Option _) = some q from hN) (fun t => by cases t)
  | succ z ih => exact bn_Mo_split_4 ih
set_option maxHeartbeats 1000000 in
set_option maxRecDepth 100000 in
theorem n_Mo_split {ad : Nat → Nat} {m F : Nat} {h : hH} {s : MS} {q : MS} (R : RepM ad m h s) (hN : N_Mo_split F s = some q) : ∃ h2, M_Mo_split F h m = some h2 ∧ RepM ad m h2 q := by
  unfold N_Mo_split at hN
  unfold M_Mo_split
  exact n_Mo_split_4 F _ _ _ _ _ R hN
