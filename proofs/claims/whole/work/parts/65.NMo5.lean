def N_Mo_table_86 (F : Nat) (s : MS) (x2 : Int32) (x3 : Int32) (x4 : Int32) (x5 : Int32) (s1 : Int32) : Option (Int32 × MS) :=
  (some (sPut s 0 s1)).bind fun y1 =>
  if x5 = 0 then (
    some (0, y1)
  ) else (
    if (((80 * x4) + (10 * x2)) + x3) < 0 ∨ 480 ≤ (((80 * x4) + (10 * x2)) + x3).toNatClampNeg then none else
    some (y1.2.1 12 (((80 * x4) + (10 * x2)) + x3).toNatClampNeg, y1)
  )
def N_Mo_table_73 (F : Nat) (s : MS) (x2 : Int32) (x3 : Int32) (x4 : Int32) (s0 : Int32) : Option (Int32 × MS) :=
  if s0 = 0 then (
    N_Mo_table_86 F s x2 x3 x4 s0 1
  ) else (
    N_Mo_table_86 F s x2 x3 x4 s0 0
  )
def N_Mo_table_72 (F : Nat) (s : MS) (x2 : Int32) (x3 : Int32) (x4 : Int32) : Option (Int32 × MS) :=
  N_Mo_table_73 F s x2 x3 x4 0
def N_Mo_table_41 (F : Nat) (s : MS) (x2 : Int32) (x3 : Int32) (x4 : Int32) (s0 : Int32) : Option (Int32 × MS) :=
  if s0 = 0 then (
    N_Mo_table_72 F s x2 x3 x4
  ) else (
    if x3 < 0 then (
      N_Mo_table_72 F s x2 x3 x4
    ) else (
      if ((8 * x4) + x2) < 0 ∨ 48 ≤ ((8 * x4) + x2).toNatClampNeg then none else
      if (s.2.1 11 ((8 * x4) + x2).toNatClampNeg) ≤ x3 then (
        N_Mo_table_72 F s x2 x3 x4
      ) else (
        N_Mo_table_73 F s x2 x3 x4 1
      )
    )
  )
def N_Mo_table_40 (F : Nat) (s : MS) (x2 : Int32) (x3 : Int32) (x4 : Int32) : Option (Int32 × MS) :=
  N_Mo_table_41 F s x2 x3 x4 0
def N_Mo_table_32 (F : Nat) (s : MS) (x2 : Int32) (x3 : Int32) (x4 : Int32) (s0 : Int32) (s2 : Int32) : Option (Int32 × MS) :=
  if s2 < 0 ∨ 6 ≤ s2.toNatClampNeg then none else
  if (s.2.1 10 s2.toNatClampNeg) ≤ s0 then (
    N_Mo_table_40 F s x2 x3 x4
  ) else (
    N_Mo_table_41 F s x2 x3 x4 1
  )
def N_Mo_table (F : Nat) (s : MS) (x1 : Int32) (x2 : Int32) (x3 : Int32) : Option (Int32 × MS) :=
  (N_Mo_editionOf F s x1).bind fun q1 =>
  if q1.1 < 0 then (
    N_Mo_table_40 F q1.2 x2 x3 q1.1
  ) else (
    if x2 < 0 then (
      N_Mo_table_40 F q1.2 x2 x3 q1.1
    ) else (
      if 0 ≤ q1.1 then (
        N_Mo_table_32 F q1.2 x2 x3 q1.1 x2 q1.1
      ) else (
        N_Mo_table_32 F q1.2 x2 x3 q1.1 x2 0
      )
    )
  )
def N_Mo_allowed_103 (F : Nat) (s : MS) (x2 : Int32) (x4 : Int64) (x6 : Int32) (x7 : Int32) : Option (Int32 × MS) :=
  if x2 < 0 ∨ 20 ≤ x2.toNatClampNeg then none else
  (some (sStL s 27 x2.toNatClampNeg x4)).bind fun y2 =>
  if x2 < 0 ∨ 20 ≤ x2.toNatClampNeg then none else
  (some (sStI y2 28 x2.toNatClampNeg (x6 &&& 1))).bind fun y5 =>
  some (x7, y5)
def N_Mo_allowed_95 (F : Nat) (r56 : MS → Int32 → Int32 → Int64 → Int32 → Int32 → Int32 → Option (Int32 × MS)) (s : MS) (x1 : Int32) (x2 : Int32) (x4 : Int64) (x6 : Int32) (x8 : Int32) (s0 : Int32) : Option (Int32 × MS) :=
  r56 s x1 x2 x4 x6 s0 (x8 + (-1))
def BN_Mo_allowed_56 (F : Nat) (r56 : MS → Int32 → Int32 → Int64 → Int32 → Int32 → Int32 → Option (Int32 × MS)) (s : MS) (x1 : Int32) (x2 : Int32) (x4 : Int64) (x6 : Int32) (x7 : Int32) (x8 : Int32) : Option (Int32 × MS) :=
  if x8 < 0 then (
    N_Mo_allowed_103 F s x2 x4 x6 x7
  ) else (
    if 0 ≤ x7 then (
      N_Mo_allowed_103 F s x2 x4 x6 x7
    ) else (
      if x2 < 0 ∨ 20 ≤ x2.toNatClampNeg then none else
      (some (sStL s 27 x2.toNatClampNeg x8.toInt64)).bind fun y4 =>
      (N_Mo_editionOf F y4 x1).bind fun q6 =>
      (N_Mo_answer F q6.2 q6.1 0).bind fun q8 =>
      if q8.1 = 0 then (
        N_Mo_allowed_95 F r56 q8.2 x1 x2 x4 x6 x8 x8
      ) else (
        N_Mo_allowed_95 F r56 q8.2 x1 x2 x4 x6 x8 x7
      )
    )
  )
def N_Mo_allowed_56 (F : Nat) : Nat → MS → Int32 → Int32 → Int64 → Int32 → Int32 → Int32 → Option (Int32 × MS)
  | 0 => fun _ _ _ _ _ _ _ => none
  | z + 1 => BN_Mo_allowed_56 F (N_Mo_allowed_56 F z)
def N_Mo_allowed (F : Nat) (s : MS) (x1 : Int32) (x2 : Int32) (x3 : Int32) : Option (Int32 × MS) :=
  (some (sPut s 0 0)).bind fun y1 =>
  if x2 < 0 then (
    some ((-1), y1)
  ) else (
    if 19 < x2 then (
      some ((-1), y1)
    ) else (
      if x3 < 0 then (
        some ((-1), y1)
      ) else (
        if x3 ≤ 20 then (
          if x2 < 0 ∨ 20 ≤ x2.toNatClampNeg then none else
          if x2 < 0 ∨ 20 ≤ x2.toNatClampNeg then none else
          if x2 < 0 ∨ 20 ≤ x2.toNatClampNeg then none else
          (some (sStI y1 28 x2.toNatClampNeg (1 &&& 1))).bind fun y10 =>
          N_Mo_allowed_56 F F y10 x1 x2 (y1.2.2 27 x2.toNatClampNeg) (y1.2.1 28 x2.toNatClampNeg) (-1) x3
        ) else (
          some ((-1), y1)
        )
      )
    )
  )
def BN_Mo_write_96 (F : Nat) (r49 : MS → Int32 → Int32 → Int32 → Option (Int32 × MS)) (r96 : MS → Int32 → Int32 → Int32 → Int32 → Option (Int32 × MS)) (s : MS) (x2 : Int32) (x3 : Int32) (x4 : Int32) (x5 : Int32) : Option (Int32 × MS) :=
  if ((400 * x3) + x4) < 0 ∨ 2400 ≤ ((400 * x3) + x4).toNatClampNeg then none else
  if (s.2.1 7 ((400 * x3) + x4).toNatClampNeg) ≤ x5 then (
    r49 s x2 x3 (x4 + 1)
  ) else (
    if ((400 * x3) + x4) < 0 ∨ 2400 ≤ ((400 * x3) + x4).toNatClampNeg then none else
    if (((800 * x3) + (s.2.1 6 ((400 * x3) + x4).toNatClampNeg)) + x5) < 0 ∨ 4800 ≤ (((800 * x3) + (s.2.1 6 ((400 * x3) + x4).toNatClampNeg)) + x5).toNatClampNeg then none else
    if (s.1 37) < 0 ∨ 1600 ≤ (s.1 37).toNatClampNeg then none else
    (some (sStI s 36 (s.1 37).toNatClampNeg (s.2.1 5 (((800 * x3) + (s.2.1 6 ((400 * x3) + x4).toNatClampNeg)) + x5).toNatClampNeg).toInt8.toInt32)).bind fun y6 =>
    (some (sPut y6 37 ((y6.1 37) + 1))).bind fun y8 =>
    r96 y8 x2 x3 x4 (x5 + 1)
  )
def N_Mo_write_96 (F : Nat) (r49 : MS → Int32 → Int32 → Int32 → Option (Int32 × MS)) : Nat → MS → Int32 → Int32 → Int32 → Int32 → Option (Int32 × MS)
  | 0 => fun _ _ _ _ _ => none
  | z + 1 => BN_Mo_write_96 F r49 (N_Mo_write_96 F r49 z)
def N_Mo_write_93 (F : Nat) (r49 : MS → Int32 → Int32 → Int32 → Option (Int32 × MS)) (s : MS) (x2 : Int32) (x3 : Int32) (x4 : Int32) : Option (Int32 × MS) :=
  N_Mo_write_96 F r49 F s x2 x3 x4 0
def BN_Mo_write_49 (F : Nat) (r49 : MS → Int32 → Int32 → Int32 → Option (Int32 × MS)) (s : MS) (x2 : Int32) (x3 : Int32) (x4 : Int32) : Option (Int32 × MS) :=
  if ((12 * x3) + x2) < 0 ∨ 72 ≤ ((12 * x3) + x2).toNatClampNeg then none else
  if (s.2.1 18 ((12 * x3) + x2).toNatClampNeg) < x4 then (
    some (s.1 37, s)
  ) else (
    if (s.1 37) ≤ 0 then (
      N_Mo_write_93 F r49 s x2 x3 x4
    ) else (
      if (s.1 37) < 0 ∨ 1600 ≤ (s.1 37).toNatClampNeg then none else
      (some (sStI s 36 (s.1 37).toNatClampNeg (32 : Int32).toInt8.toInt32)).bind fun y5 =>
      (some (sPut y5 37 ((y5.1 37) + 1))).bind fun y7 =>
      N_Mo_write_93 F r49 y7 x2 x3 x4
    )
  )
def N_Mo_write_49 (F : Nat) : Nat → MS → Int32 → Int32 → Int32 → Option (Int32 × MS)
  | 0 => fun _ _ _ _ => none
  | z + 1 => BN_Mo_write_49 F (N_Mo_write_49 F z)
def N_Mo_write (F : Nat) (s : MS) (x1 : Int32) (x2 : Int32) : Option (Int32 × MS) :=
  (some (sPut s 0 0)).bind fun y1 =>
  (N_Mo_editionOf F y1 x1).bind fun q3 =>
  if q3.1 < 0 then (
    some ((-1), q3.2)
  ) else (
    if x2 < 0 then (
      some ((-1), q3.2)
    ) else (
      if q3.1 < 0 ∨ 6 ≤ q3.1.toNatClampNeg then none else
      if x2 < (q3.2.2.1 13 q3.1.toNatClampNeg) then (
        (some (sPut q3.2 37 0)).bind fun y9 =>
        if ((12 * q3.1) + x2) < 0 ∨ 72 ≤ ((12 * q3.1) + x2).toNatClampNeg then none else
        N_Mo_write_49 F F y9 x2 q3.1 (y9.2.1 17 ((12 * q3.1) + x2).toNatClampNeg)
      ) else (
        some ((-1), q3.2)
      )
    )
  )
def N_Mo_written (F : Nat) (s : MS) (x1 : Int32) : Option (Int32 × MS) :=
  (some (sPut s 0 0)).bind fun y1 =>
  if x1 < 0 then (
    some ((-1), y1)
  ) else (
    if (y1.1 37) ≤ x1 then (
      some ((-1), y1)
    ) else (
      if x1 < 0 ∨ 1600 ≤ x1.toNatClampNeg then none else
      some ((y1.2.1 36 x1.toNatClampNeg) &&& 255, y1)
    )
  )
def N_Mo_haul (F : Nat) (s : MS) (x1 : Int32) (x2 : Int32) (x3 : Int64) : Option (Int32 × MS) :=
  (some (sPut s 0 0)).bind fun y1 =>
  if x1 < 0 then (
    some (0, y1)
  ) else (
    if 9 < x1 then (
      some (0, y1)
    ) else (
      if x2 < 0 then (
        some (0, y1)
      ) else (
        if 7 < x2 then (
          some (0, y1)
        ) else (
          if (lg_cmp x3 1) < 0 then (
            some (0, y1)
          ) else (
            if (lg_cmp x3 1000000000) ≤ 0 then (
              if ((8 * x1) + x2) < 0 ∨ 80 ≤ ((8 * x1) + x2).toNatClampNeg then none else
              if ((8 * x1) + x2) < 0 ∨ 80 ≤ ((8 * x1) + x2).toNatClampNeg then none else
              (some (sStL y1 38 ((8 * x1) + x2).toNatClampNeg ((y1.2.2 38 ((8 * x1) + x2).toNatClampNeg) + x3))).bind fun y11 =>
              some (1, y11)
            ) else (
              some (0, y1)
            )
          )
        )
      )
    )
  )
def BN_Mo_byCatch_102 (F : Nat) (r102 : MS → Int32 → Int32 → Int32 → Int64 → Int64 → Int64 → Option (Int64 × MS)) (s : MS) (x1 : Int32) (x2 : Int32) (x3 : Int32) (x4 : Int64) (x6 : Int64) (x8 : Int64) : Option (Int64 × MS) :=
  if (lg_cmp x8 0) ≤ 0 then (
    if x3 = 0 then (
      if ((8 * x1) + x2) < 0 ∨ 80 ≤ ((8 * x1) + x2).toNatClampNeg then none else
      if x6 = 0 then none else
      some ((s.2.2 38 ((8 * x1) + x2).toNatClampNeg) / x6, s)
    ) else (
      if x6 = 0 then none else
      some (x4 / x6, s)
    )
  ) else (
    if x8 = 0 then none else
    r102 s x1 x2 x3 x4 x8 (x6 - x6 / x8 * x8)
  )
def N_Mo_byCatch_102 (F : Nat) : Nat → MS → Int32 → Int32 → Int32 → Int64 → Int64 → Int64 → Option (Int64 × MS)
  | 0 => fun _ _ _ _ _ _ _ => none
  | z + 1 => BN_Mo_byCatch_102 F (N_Mo_byCatch_102 F z)
def BN_Mo_byCatch_44 (F : Nat) (r44 : MS → Int32 → Int32 → Int32 → Int64 → Int32 → Option (Int64 × MS)) (s : MS) (x1 : Int32) (x2 : Int32) (x3 : Int32) (x4 : Int64) (x6 : Int32) : Option (Int64 × MS) :=
  if 8 ≤ x6 then (
    if (lg_cmp x4 0) = 0 then (
      some ((-1), s)
    ) else (
      if ((8 * x1) + x2) < 0 ∨ 80 ≤ ((8 * x1) + x2).toNatClampNeg then none else
      N_Mo_byCatch_102 F F s x1 x2 x3 x4 (s.2.2 38 ((8 * x1) + x2).toNatClampNeg) x4
    )
  ) else (
    if ((8 * x1) + x6) < 0 ∨ 80 ≤ ((8 * x1) + x6).toNatClampNeg then none else
    r44 s x1 x2 x3 (x4 + (s.2.2 38 ((8 * x1) + x6).toNatClampNeg)) (x6 + 1)
  )
def N_Mo_byCatch_44 (F : Nat) : Nat → MS → Int32 → Int32 → Int32 → Int64 → Int32 → Option (Int64 × MS)
  | 0 => fun _ _ _ _ _ _ => none
  | z + 1 => BN_Mo_byCatch_44 F (N_Mo_byCatch_44 F z)
def N_Mo_byCatch (F : Nat) (s : MS) (x1 : Int32) (x2 : Int32) (x3 : Int32) : Option (Int64 × MS) :=
  (some (sPut s 0 0)).bind fun y1 =>
  if x1 < 0 then (
    some ((-1), y1)
  ) else (
    if 9 < x1 then (
      some ((-1), y1)
    ) else (
      if x2 < 0 then (
        some ((-1), y1)
      ) else (
        if 7 < x2 then (
          some ((-1), y1)
        ) else (
          if x3 < 0 then (
            some ((-1), y1)
          ) else (
            if x3 ≤ 1 then (
              N_Mo_byCatch_44 F F y1 x1 x2 x3 0 0
            ) else (
              some ((-1), y1)
            )
          )
        )
      )
    )
  )
set_option maxHeartbeats 1000000 in
set_option maxRecDepth 100000 in
theorem n_Mo_table_86 {ad : Nat → Nat} {m F : Nat} : ∀ (h : hH) (s : MS) (x2 : Int32) (x3 : Int32) (x4 : Int32) (x5 : Int32) (s1 : Int32) (q : (Int32 × MS)), RepM ad m h s → N_Mo_table_86 F s x2 x3 x4 x5 s1 = some q → ∃ h2, M_Mo_table_86 F h m x2 x3 x4 x5 m s1 = some (q.1, h2) ∧ RepM ad m h2 q.2 := by
  intro h s x2 x3 x4 x5 s1 q R hN
  unfold N_Mo_table_86 at hN
  unfold M_Mo_table_86
  obtain ⟨y1, ey1, hN⟩ := hb_some hN
  obtain ⟨h2, eh2, R⟩ := rPut R (k := 0) (v := s1) rfl
  rw [Option.some.inj ey1] at R
  refine ex_b eh2 ?_
  refine ex_if (fun c3 => ?_) (fun c3 => ?_)
  · have hN := hif_t hN c3
    obtain rfl := Option.some.inj hN
    exact ⟨_, rfl, R⟩
  · have hN := hif_f hN c3
    refine ex_b (rGetA R (k := 12) rfl) ?_
    obtain ⟨c4, hN⟩ := hnz hN
    refine ex_b (rLdI R (k := 12) rfl c4) ?_
    obtain rfl := Option.some.inj hN
    exact ⟨_, rfl, R⟩
set_option maxHeartbeats 1000000 in
set_option maxRecDepth 100000 in
theorem n_Mo_table_73 {ad : Nat → Nat} {m F : Nat} : ∀ (h : hH) (s : MS) (x2 : Int32) (x3 : Int32) (x4 : Int32) (s0 : Int32) (q : (Int32 × MS)), RepM ad m h s → N_Mo_table_73 F s x2 x3 x4 s0 = some q → ∃ h2, M_Mo_table_73 F h m x2 x3 x4 s0 = some (q.1, h2) ∧ RepM ad m h2 q.2 := by
  intro h s x2 x3 x4 s0 q R hN
  unfold N_Mo_table_73 at hN
  unfold M_Mo_table_73
  refine ex_if (fun c1 => ?_) (fun c1 => ?_)
  · have hN := hif_t hN c1
    exact n_Mo_table_86 _ _ _ _ _ _ _ _ R hN
  · have hN := hif_f hN c1
    exact n_Mo_table_86 _ _ _ _ _ _ _ _ R hN
set_option maxHeartbeats 1000000 in
set_option maxRecDepth 100000 in
theorem n_Mo_table_72 {ad : Nat → Nat} {m F : Nat} : ∀ (h : hH) (s : MS) (x2 : Int32) (x3 : Int32) (x4 : Int32) (q : (Int32 × MS)), RepM ad m h s → N_Mo_table_72 F s x2 x3 x4 = some q → ∃ h2, M_Mo_table_72 F h m x2 x3 x4 = some (q.1, h2) ∧ RepM ad m h2 q.2 := by
  intro h s x2 x3 x4 q R hN
  unfold N_Mo_table_72 at hN
  unfold M_Mo_table_72
  exact n_Mo_table_73 _ _ _ _ _ _ _ R hN
set_option maxHeartbeats 1000000 in
set_option maxRecDepth 100000 in
theorem n_Mo_table_41 {ad : Nat → Nat} {m F : Nat} : ∀ (h : hH) (s : MS) (x2 : Int32) (x3 : Int32) (x4 : Int32) (s0 : Int32) (q : (Int32 × MS)), RepM ad m h s → N_Mo_table_41 F s x2 x3 x4 s0 = some q → ∃ h2, M_Mo_table_41 F h m x2 x3 x4 s0 = some (q.1, h2) ∧ RepM ad m h2 q.2 := by
  intro h s x2 x3 x4 s0 q R hN
  unfold N_Mo_table_41 at hN
  unfold M_Mo_table_41
  refine ex_if (fun c1 => ?_) (fun c1 => ?_)
  · have hN := hif_t hN c1
    exact n_Mo_table_72 _ _ _ _ _ _ R hN
  · have hN := hif_f hN c1
    refine ex_if (fun c2 => ?_) (fun c2 => ?_)
    · have hN := hif_t hN c2
      exact n_Mo_table_72 _ _ _ _ _ _ R hN
    · have hN := hif_f hN c2
      refine ex_b (rGetA R (k := 11) rfl) ?_
      obtain ⟨c3, hN⟩ := hnz hN
      refine ex_b (rLdI R (k := 11) rfl c3) ?_
      refine ex_if (fun c4 => ?_) (fun c4 => ?_)
      · have hN := hif_t hN c4
        exact n_Mo_table_72 _ _ _ _ _ _ R hN
      · have hN := hif_f hN c4
        exact n_Mo_table_73 _ _ _ _ _ _ _ R hN
set_option maxHeartbeats 1000000 in
set_option maxRecDepth 100000 in
theorem n_Mo_table_40 {ad : Nat → Nat} {m F : Nat} : ∀ (h : hH) (s : MS) (x2 : Int32) (x3 : Int32) (x4 : Int32) (q : (Int32 × MS)), RepM ad m h s → N_Mo_table_40 F s x2 x3 x4 = some q → ∃ h2, M_Mo_table_40 F h m x2 x3 x4 = some (q.1, h2) ∧ RepM ad m h2 q.2 := by
  intro h s x2 x3 x4 q R hN
  unfold N_Mo_table_40 at hN
  unfold M_Mo_table_40
  exact n_Mo_table_41 _ _ _ _ _ _ _ R hN
set_option maxHeartbeats 1000000 in
set_option maxRecDepth 100000 in
theorem n_Mo_table_32 {ad : Nat → Nat} {m F : Nat} : ∀ (h : hH) (s : MS) (x2 : Int32) (x3 : Int32) (x4 : Int32) (s0 : Int32) (s2 : Int32) (q : (Int32 × MS)), RepM ad m h s → N_Mo_table_32 F s x2 x3 x4 s0 s2 = some q → ∃ h2, M_Mo_table_32 F h m x2 x3 x4 s0 (ad 10) s2 = some (q.1, h2) ∧ RepM ad m h2 q.2 := by
  intro h s x2 x3 x4 s0 s2 q R hN
  unfold N_Mo_table_32 at hN
  unfold M_Mo_table_32
  obtain ⟨c1, hN⟩ := hnz hN
  refine ex_b (rLdI R (k := 10) rfl c1) ?_
  refine ex_if (fun c2 => ?_) (fun c2 => ?_)
  · have hN := hif_t hN c2
    exact n_Mo_table_40 _ _ _ _ _ _ R hN
  · have hN := hif_f hN c2
    exact n_Mo_table_41 _ _ _ _ _ _ _ R hN
set_option maxHeartbeats 1000000 in
set_option maxRecDepth 100000 in
theorem n_Mo_table {ad : Nat → Nat} {m F : Nat} {h : hH} {s : MS} {x1 : Int32} {x2 : Int32} {x3 : Int32} {q : (Int32 × MS)} (R : RepM ad m h s) (hN : N_Mo_table F s x1 x2 x3 = some q) : ∃ h2, M_Mo_table F h m x1 x2 x3 = some (q.1, h2) ∧ RepM ad m h2 q.2 := by
  unfold N_Mo_table at hN
  unfold M_Mo_table
  obtain ⟨q1, eq1, hN⟩ := hb_some hN
  refine ex_b (rIs R) ?_
  obtain ⟨h2, eh2, R⟩ := n_Mo_editionOf R eq1
  refine ex_b eh2 ?_
  refine ex_if (fun c3 => ?_) (fun c3 => ?_)
  · have hN := hif_t hN c3
    exact n_Mo_table_40 _ _ _ _ _ _ R hN
  · have hN := hif_f hN c3
    refine ex_if (fun c4 => ?_) (fun c4 => ?_)
    · have hN := hif_t hN c4
      exact n_Mo_table_40 _ _ _ _ _ _ R hN
    · have hN := hif_f hN c4
      refine ex_b (rGetA R (k := 10) rfl) ?_
      refine ex_if (fun c5 => ?_) (fun c5 => ?_)
      · have hN := hif_t hN c5
        exact n_Mo_table_32 _ _ _ _ _ _ _ _ R hN
      · have hN := hif_f hN c5
        exact n_Mo_table_32 _ _ _ _ _ _ _ _ R hN
set_option maxHeartbeats 1000000 in
set_option maxRecDepth 100000 in
theorem n_Mo_allowed_103 {ad : Nat → Nat} {m F : Nat} : ∀ (h : hH) (s : MS) (x2 : Int32) (x4 : Int64) (x6 : Int32) (x7 : Int32) (q : (Int32 × MS)), RepM ad m h s → N_Mo_allowed_103 F s x2 x4 x6 x7 = some q → ∃ h2, M_Mo_allowed_103 F h m x2 x4 x6 x7 = some (q.1, h2) ∧ RepM ad m h2 q.2 := by
  intro h s x2 x4 x6 x7 q R hN
  unfold N_Mo_allowed_103 at hN
  unfold M_Mo_allowed_103
  refine ex_b (rGetA R (k := 27) rfl) ?_
  obtain ⟨c1, hN⟩ := hnz hN
  obtain ⟨y2, ey2, hN⟩ := hb_some hN
  obtain ⟨h3, eh3, R⟩ := rStJ R (k := 27) (x := x4) rfl c1
  rw [Option.some.inj ey2] at R
  refine ex_b eh3 ?_
  refine ex_b (rGetA R (k := 28) rfl) ?_
  obtain ⟨c4, hN⟩ := hnz hN
  obtain ⟨y5, ey5, hN⟩ := hb_some hN
  obtain ⟨h6, eh6, R⟩ := rStZ R (k := 28) (x := x6) rfl c4
  rw [Option.some.inj ey5] at R
  refine ex_b eh6 ?_
  obtain rfl := Option.some.inj hN
  exact ⟨_, rfl, R⟩
set_option maxHeartbeats 1000000 in
set_option maxRecDepth 100000 in
theorem n_Mo_allowed_95 {ad : Nat → Nat} {m F : Nat} {m56 : hH → Nat → Int32 → Int32 → Int64 → Int32 → Int32 → Int32 → Option (Int32 × hH)} {r56 : MS → Int32 → Int32 → Int64 → Int32 → Int32 → Int32 → Option (Int32 × MS)} (P56 : ∀ (h : hH) (s : MS) (x1 : Int32) (x2 : Int32) (x4 : Int64) (x6 : Int32) (x7 : Int32) (x8 : Int32) (q : (Int32 × MS)), RepM ad m h s → r56 s x1 x2 x4 x6 x7 x8 = some q → ∃ h2, m56 h m x1 x2 x4 x6 x7 x8 = some (q.1, h2) ∧ RepM ad m h2 q.2) : ∀ (h : hH) (s : MS) (x1 : Int32) (x2 : Int32) (x4 : Int64) (x6 : Int32) (x8 : Int32) (s0 : Int32) (q : (Int32 × MS)), RepM ad m h s → N_Mo_allowed_95 F r56 s x1 x2 x4 x6 x8 s0 = some q → ∃ h2, M_Mo_allowed_95 F m56 h m x1 x2 x4 x6 x8 s0 = some (q.1, h2) ∧ RepM ad m h2 q.2 := by
  intro h s x1 x2 x4 x6 x8 s0 q R hN
  unfold N_Mo_allowed_95 at hN
  unfold M_Mo_allowed_95
  exact P56 _ _ _ _ _ _ _ _ _ R hN
set_option maxHeartbeats 1000000 in
set_option maxRecDepth 100000 in
theorem bn_Mo_allowed_56 {ad : Nat → Nat} {m F : Nat} {m56 : hH → Nat → Int32 → Int32 → Int64 → Int32 → Int32 → Int32 → Option (Int32 × hH)} {r56 : MS → Int32 → Int32 → Int64 → Int32 → Int32 → Int32 → Option (Int32 × MS)} (P56 : ∀ (h : hH) (s : MS) (x1 : Int32) (x2 : Int32) (x4 : Int64) (x6 : Int32) (x7 : Int32) (x8 : Int32) (q : (Int32 × MS)), RepM ad m h s → r56 s x1 x2 x4 x6 x7 x8 = some q → ∃ h2, m56 h m x1 x2 x4 x6 x7 x8 = some (q.1, h2) ∧ RepM ad m h2 q.2) : ∀ (h : hH) (s : MS) (x1 : Int32) (x2 : Int32) (x4 : Int64) (x6 : Int32) (x7 : Int32) (x8 : Int32) (q : (Int32 × MS)), RepM ad m h s → BN_Mo_allowed_56 F r56 s x1 x2 x4 x6 x7 x8 = some q → ∃ h2, B_Mo_allowed_56 F m56 h m x1 x2 x4 x6 x7 x8 = some (q.1, h2) ∧ RepM ad m h2 q.2 := by
  intro h s x1 x2 x4 x6 x7 x8 q R hN
  unfold BN_Mo_allowed_56 at hN
  unfold B_Mo_allowed_56
  refine ex_if (fun c1 => ?_) (fun c1 => ?_)
  · have hN := hif_t hN c1
    exact n_Mo_allowed_103 _ _ _ _ _ _ _ R hN
  · have hN := hif_f hN c1
    refine ex_if (fun c2 => ?_) (fun c2 => ?_)
    · have hN := hif_t hN c2
      exact n_Mo_allowed_103 _ _ _ _ _ _ _ R hN
    · have hN := hif_f hN c2
      refine ex_b (rGetA R (k := 27) rfl) ?_
      obtain ⟨c3, hN⟩ := hnz hN
      obtain ⟨y4, ey4, hN⟩ := hb_some hN
      obtain ⟨h5, eh5, R⟩ := rStJ R (k := 27) (x := x8.toInt64) rfl c3
      rw [Option.some.inj ey4] at R
      refine ex_b eh5 ?_
      obtain ⟨q6, eq6, hN⟩ := hb_some hN
      refine ex_b (rIs R) ?_
      obtain ⟨h7, eh7, R⟩ := n_Mo_editionOf R eq6
      refine ex_b eh7 ?_
      obtain ⟨q8, eq8, hN⟩ := hb_some hN
      refine ex_b (rIs R) ?_
      obtain ⟨h9, eh9, R⟩ := n_Mo_answer R eq8
      refine ex_b eh9 ?_
      refine ex_if (fun c10 => ?_) (fun c10 => ?_)
      · have hN := hif_t hN c10
        exact n_Mo_allowed_95 P56 _ _ _ _ _ _ _ _ _ R hN
      · have hN := hif_f hN c10
        exact n_Mo_allowed_95 P56 _ _ _ _ _ _ _ _ _ R hN
theorem n_Mo_allowed_56 {ad : Nat → Nat} {m F : Nat} : ∀ z : Nat, ∀ (h : hH) (s : MS) (x1 : Int32) (x2 : Int32) (x4 : Int64) (x6 : Int32) (x7 : Int32) (x8 : Int32) (q : (Int32 × MS)), RepM ad m h s → N_Mo_allowed_56 F z s x1 x2 x4 x6 x7 x8 = some q → ∃ h2, M_Mo_allowed_56 F z h m x1 x2 x4 x6 x7 x8 = some (q.1, h2) ∧ RepM ad m h2 q.2 := by
  intro z
  induction z with
  | zero => intro h s x1 x2 x4 x6 x7 x8 q R hN; exact absurd (show (none : Option _) = some q from hN) (fun t => by cases t)
  | succ z ih => exact bn_Mo_allowed_56 ih
set_option maxHeartbeats 1000000 in
set_option maxRecDepth 100000 in
theorem n_Mo_allowed {ad : Nat → Nat} {m F : Nat} {h : hH} {s : MS} {x1 : Int32} {x2 : Int32} {x3 : Int32} {q : (Int32 × MS)} (R : RepM ad m h s) (hN : N_Mo_allowed F s x1 x2 x3 = some q) : ∃ h2, M_Mo_allowed F h m x1 x2 x3 = some (q.1, h2) ∧ RepM ad m h2 q.2 := by
  unfold N_Mo_allowed at hN
  unfold M_Mo_allowed
  obtain ⟨y1, ey1, hN⟩ := hb_some hN
  obtain ⟨h2, eh2, R⟩ := rPut R (k := 0) (v := 0) rfl
  rw [Option.some.inj ey1] at R
  refine ex_b eh2 ?_
  refine ex_if (fun c3 => ?_) (fun c3 => ?_)
  · have hN := hif_t hN c3
    obtain rfl := Option.some.inj hN
    exact ⟨_, rfl, R⟩
  · have hN := hif_f hN c3
    refine ex_if (fun c4 => ?_) (fun c4 => ?_)
    · have hN := hif_t hN c4
      obtain rfl := Option.some.inj hN
      exact ⟨_, rfl, R⟩
    · have hN := hif_f hN c4
      refine ex_if (fun c5 => ?_) (fun c5 => ?_)
      · have hN := hif_t hN c5
        obtain rfl := Option.some.inj hN
        exact ⟨_, rfl, R⟩
      · have hN := hif_f hN c5
        refine ex_if (fun c6 => ?_) (fun c6 => ?_)
        · have hN := hif_t hN c6
          refine ex_b (rGetA R (k := 27) rfl) ?_
          obtain ⟨c7, hN⟩ := hnz hN
          refine ex_b (rLdL R (k := 27) rfl c7) ?_
          refine ex_b (rGetA R (k := 28) rfl) ?_
          obtain ⟨c8, hN⟩ := hnz hN
          refine ex_b (rLdI R (k := 28) rfl c8) ?_
          refine ex_b (rGetA R (k := 28) rfl) ?_
          obtain ⟨c9, hN⟩ := hnz hN
          obtain ⟨y10, ey10, hN⟩ := hb_some hN
          obtain ⟨h11, eh11, R⟩ := rStZ R (k := 28) (x := 1) rfl c9
          rw [Option.some.inj ey10] at R
          refine ex_b eh11 ?_
          exact n_Mo_allowed_56 F _ _ _ _ _ _ _ _ _ R hN
        · have hN := hif_f hN c6
          obtain rfl := Option.some.inj hN
          exact ⟨_, rfl, R⟩
set_option maxHeartbeats 1000000 in
set_option maxRecDepth 100000 in
theorem bn_Mo_write_96 {ad : Nat → Nat} {m F : Nat} {m49 : hH → Nat → Int32 → Int32 → Int32 → Option (Int32 × hH)} {r49 : MS → Int32 → Int32 → Int32 → Option (Int32 × MS)} (P49 : ∀ (h : hH) (s : MS) (x2 : Int32) (x3 : Int32) (x4 : Int32) (q : (Int32 × MS)), RepM ad m h s → r49 s x2 x3 x4 = some q → ∃ h2, m49 h m x2 x3 x4 = some (q.1, h2) ∧ RepM ad m h2 q.2) {m96 : hH → Nat → Int32 → Int32 → Int32 → Int32 → Option (Int32 × hH)} {r96 : MS → Int32 → Int32 → Int32 → Int32 → Option (Int32 × MS)} (P96 : ∀ (h : hH) (s : MS) (x2 : Int32) (x3 : Int32) (x4 : Int32) (x5 : Int32) (q : (Int32 × MS)), RepM ad m h s → r96 s x2 x3 x4 x5 = some q → ∃ h2, m96 h m x2 x3 x4 x5 = some (q.1, h2) ∧ RepM ad m h2 q.2) : ∀ (h : hH) (s : MS) (x2 : Int32) (x3 : Int32) (x4 : Int32) (x5 : Int32) (q : (Int32 × MS)), RepM ad m h s → BN_Mo_write_96 F r49 r96 s x2 x3 x4 x5 = some q → ∃ h2, B_Mo_write_96 F m49 m96 h m x2 x3 x4 x5 = some (q.1, h2) ∧ RepM ad m h2 q.2 := by
  intro h s x2 x3 x4 x5 q R hN
  unfold BN_Mo_write_96 at hN
  unfold B_Mo_write_96
  refine ex_b (rGetA R (k := 7) rfl) ?_
  obtain ⟨c1, hN⟩ := hnz hN
  refine ex_b (rLdI R (k := 7) rfl c1) ?_
  refine ex_if (fun c2 => ?_) (fun c2 => ?_)
  · have hN := hif_t hN c2
    exact P49 _ _ _ _ _ _ R hN
  · have hN := hif_f hN c2
    refine ex_b (rGetA R (k := 36) rfl) ?_
    refine ex_b (rGetI R (k := 37) rfl) ?_
    refine ex_b (rGetA R (k := 5) rfl) ?_
    refine ex_b (rGetA R (k := 6) rfl) ?_
    obtain ⟨c3, hN⟩ := hnz hN
    refine ex_b (rLdI R (k := 6) rfl c3) ?_
    obtain ⟨c4, hN⟩ := hnz hN
    refine ex_b (rLdI R (k := 5) rfl c4) ?_
    obtain ⟨c5, hN⟩ := hnz hN
    obtain ⟨y6, ey6, hN⟩ := hb_some hN
    obtain ⟨h7, eh7, R⟩ := rStB R (k := 36) (x := s.2.1 5 (((800 * x3) + (s.2.1 6 ((400 * x3) + x4).toNatClampNeg)) + x5).toNatClampNeg) rfl c5
    rw [Option.some.inj ey6] at R
    refine ex_b eh7 ?_
    refine ex_b (rGetI R (k := 37) rfl) ?_
    obtain ⟨y8, ey8, hN⟩ := hb_some hN
    obtain ⟨h9, eh9, R⟩ := rPut R (k := 37) (v := (y6.1 37) + 1) rfl
    rw [Option.some.inj ey8] at R
    refine ex_b eh9 ?_
    exact P96 _ _ _ _ _ _ _ R hN
theorem n_Mo_write_96 {ad : Nat → Nat} {m F : Nat} {m49 : hH → Nat → Int32 → Int32 → Int32 → Option (Int32 × hH)} {r49 : MS → Int32 → Int32 → Int32 → Option (Int32 × MS)} (P49 : ∀ (h : hH) (s : MS) (x2 : Int32) (x3 : Int32) (x4 : Int32) (q : (Int32 × MS)), RepM ad m h s → r49 s x2 x3 x4 = some q → ∃ h2, m49 h m x2 x3 x4 = some (q.1, h2) ∧ RepM ad m h2 q.2) : ∀ z : Nat, ∀ (h : hH) (s : MS) (x2 : Int32) (x3 : Int32) (x4 : Int32) (x5 : Int32) (q : (Int32 × MS)), RepM ad m h s → N_Mo_write_96 F r49 z s x2 x3 x4 x5 = some q → ∃ h2, M_Mo_write_96 F m49 z h m x2 x3 x4 x5 = some (q.1, h2) ∧ RepM ad m h2 q.2 := by
  intro z
  induction z with
  | zero => intro h s x2 x3 x4 x5 q R hN; exact absurd (show (none : Option _) = some q from hN) (fun t => by cases t)
  | succ z ih => exact bn_Mo_write_96 P49 ih
set_option maxHeartbeats 1000000 in
set_option maxRecDepth 100000 in
theorem n_Mo_write_93 {ad : Nat → Nat} {m F : Nat} {m49 : hH → Nat → Int32 → Int32 → Int32 → Option (Int32 × hH)} {r49 : MS → Int32 → Int32 → Int32 → Option (Int32 × MS)} (P49 : ∀ (h : hH) (s : MS) (x2 : Int32) (x3 : Int32) (x4 : Int32) (q : (Int32 × MS)), RepM ad m h s → r49 s x2 x3 x4 = some q → ∃ h2, m49 h m x2 x3 x4 = some (q.1, h2) ∧ RepM ad m h2 q.2) : ∀ (h : hH) (s : MS) (x2 : Int32) (x3 : Int32) (x4 : Int32) (q : (Int32 × MS)), RepM ad m h s → N_Mo_write_93 F r49 s x2 x3 x4 = some q → ∃ h2, M_Mo_write_93 F m49 h m x2 x3 x4 = some (q.1, h2) ∧ RepM ad m h2 q.2 := by
  intro h s x2 x3 x4 q R hN
  unfold N_Mo_write_93 at hN
  unfold M_Mo_write_93
  exact n_Mo_write_96 P49 F _ _ _ _ _ _ _ R hN
set_option maxHeartbeats 1000000 in
set_option maxRecDepth 100000 in
theorem bn_Mo_write_49 {ad : Nat → Nat} {m F : Nat} {m49 : hH → Nat → Int32 → Int32 → Int32 → Option (Int32 × hH)} {r49 : MS → Int32 → Int32 → Int32 → Option (Int32 × MS)} (P49 : ∀ (h : hH) (s : MS) (x2 : Int32) (x3 : Int32) (x4 : Int32) (q : (Int32 × MS)), RepM ad m h s → r49 s x2 x3 x4 = some q → ∃ h2, m49 h m x2 x3 x4 = some (q.1, h2) ∧ RepM ad m h2 q.2) : ∀ (h : hH) (s : MS) (x2 : Int32) (x3 : Int32) (x4 : Int32) (q : (Int32 × MS)), RepM ad m h s → BN_Mo_write_49 F r49 s x2 x3 x4 = some q → ∃ h2, B_Mo_write_49 F m49 h m x2 x3 x4 = some (q.1, h2) ∧ RepM ad m h2 q.2 := by
  intro h s x2 x3 x4 q R hN
  unfold BN_Mo_write_49 at hN
  unfold B_Mo_write_49
  refine ex_b (rGetA R (k := 18) rfl) ?_
  obtain ⟨c1, hN⟩ := hnz hN
  refine ex_b (rLdI R (k := 18) rfl c1) ?_
  refine ex_if (fun c2 => ?_) (fun c2 => ?_)
  · have hN := hif_t hN c2
    refine ex_b (rGetI R (k := 37) rfl) ?_
    obtain rfl := Option.some.inj hN
    exact ⟨_, rfl, R⟩
  · have hN := hif_f hN c2
    refine ex_b (rGetI R (k := 37) rfl) ?_
    refine ex_if (fun c3 => ?_) (fun c3 => ?_)
    · have hN := hif_t hN c3
      exact n_Mo_write_93 P49 _ _ _ _ _ _ R hN
    · have hN := hif_f hN c3
      refine ex_b (rGetA R (k := 36) rfl) ?_
      refine ex_b (rGetI R (k := 37) rfl) ?_
      obtain ⟨c4, hN⟩ := hnz hN
      obtain ⟨y5, ey5, hN⟩ := hb_some hN
      obtain ⟨h6, eh6, R⟩ := rStB R (k := 36) (x := 32) rfl c4
      rw [Option.some.inj ey5] at R
      refine ex_b eh6 ?_
      refine ex_b (rGetI R (k := 37) rfl) ?_
      obtain ⟨y7, ey7, hN⟩ := hb_some hN
      obtain ⟨h8, eh8, R⟩ := rPut R (k := 37) (v := (y5.1 37) + 1) rfl
      rw [Option.some.inj ey7] at R
      refine ex_b eh8 ?_
      exact n_Mo_write_93 P49 _ _ _ _ _ _ R hN
theorem n_Mo_write_49 {ad : Nat → Nat} {m F : Nat} : ∀ z : Nat, ∀ (h : hH) (s : MS) (x2 : Int32) (x3 : Int32) (x4 : Int32) (q : (Int32 × MS)), RepM ad m h s → N_Mo_write_49 F z s x2 x3 x4 = some q → ∃ h2, M_Mo_write_49 F z h m x2 x3 x4 = some (q.1, h2) ∧ RepM ad m h2 q.2 := by
  intro z
  induction z with
  | zero => intro h s x2 x3 x4 q R hN; exact absurd (show (none : Option _) = some q from hN) (fun t => by cases t)
  | succ z ih => exact bn_Mo_write_49 ih
set_option maxHeartbeats 1000000 in
set_option maxRecDepth 100000 in
theorem n_Mo_write {ad : Nat → Nat} {m F : Nat} {h : hH} {s : MS} {x1 : Int32} {x2 : Int32} {q : (Int32 × MS)} (R : RepM ad m h s) (hN : N_Mo_write F s x1 x2 = some q) : ∃ h2, M_Mo_write F h m x1 x2 = some (q.1, h2) ∧ RepM ad m h2 q.2 := by
  unfold N_Mo_write at hN
  unfold M_Mo_write
  obtain ⟨y1, ey1, hN⟩ := hb_some hN
  obtain ⟨h2, eh2, R⟩ := rPut R (k := 0) (v := 0) rfl
  rw [Option.some.inj ey1] at R
  refine ex_b eh2 ?_
  obtain ⟨q3, eq3, hN⟩ := hb_some hN
  refine ex_b (rIs R) ?_
  obtain ⟨h4, eh4, R⟩ := n_Mo_editionOf R eq3
  refine ex_b eh4 ?_
  refine ex_if (fun c5 => ?_) (fun c5 => ?_)
  · have hN := hif_t hN c5
    obtain rfl := Option.some.inj hN
    exact ⟨_, rfl, R⟩
  · have hN := hif_f hN c5
    refine ex_if (fun c6 => ?_) (fun c6 => ?_)
    · have hN := hif_t hN c6
      obtain rfl := Option.some.inj hN
      exact ⟨_, rfl, R⟩
    · have hN := hif_f hN c6
      refine ex_b (rGetA R (k := 13) rfl) ?_
      obtain ⟨c7, hN⟩ := hnz hN
      refine ex_b (rLdI R (k := 13) rfl c7) ?_
      refine ex_if (fun c8 => ?_) (fun c8 => ?_)
      · have hN := hif_t hN c8
        obtain ⟨y9, ey9, hN⟩ := hb_some hN
        obtain ⟨h10, eh10, R⟩ := rPut R (k := 37) (v := 0) rfl
        rw [Option.some.inj ey9] at R
        refine ex_b eh10 ?_
        refine ex_b (rGetA R (k := 17) rfl) ?_
        obtain ⟨c11, hN⟩ := hnz hN
        refine ex_b (rLdI R (k := 17) rfl c11) ?_
        exact n_Mo_write_49 F _ _ _ _ _ _ R hN
      · have hN := hif_f hN c8
        obtain rfl := Option.some.inj hN
        exact ⟨_, rfl, R⟩
set_option maxHeartbeats 1000000 in
set_option maxRecDepth 100000 in
theorem n_Mo_written {ad : Nat → Nat} {m F : Nat} {h : hH} {s : MS} {x1 : Int32} {q : (Int32 × MS)} (R : RepM ad m h s) (hN : N_Mo_written F s x1 = some q) : ∃ h2, M_Mo_written F h m x1 = some (q.1, h2) ∧ RepM ad m h2 q.2 := by
  unfold N_Mo_written at hN
  unfold M_Mo_written
  obtain ⟨y1, ey1, hN⟩ := hb_some hN
  obtain ⟨h2, eh2, R⟩ := rPut R (k := 0) (v := 0) rfl
  rw [Option.some.inj ey1] at R
  refine ex_b eh2 ?_
  refine ex_if (fun c3 => ?_) (fun c3 => ?_)
  · have hN := hif_t hN c3
    obtain rfl := Option.some.inj hN
    exact ⟨_, rfl, R⟩
  · have hN := hif_f hN c3
    refine ex_b (rGetI R (k := 37) rfl) ?_
    refine ex_if (fun c4 => ?_) (fun c4 => ?_)
    · have hN := hif_t hN c4
      obtain rfl := Option.some.inj hN
      exact ⟨_, rfl, R⟩
    · have hN := hif_f hN c4
      refine ex_b (rGetA R (k := 36) rfl) ?_
      obtain ⟨c5, hN⟩ := hnz hN
      refine ex_b (rLdI R (k := 36) rfl c5) ?_
      obtain rfl := Option.some.inj hN
      exact ⟨_, rfl, R⟩
set_option maxHeartbeats 1000000 in
set_option maxRecDepth 100000 in
theorem n_Mo_haul {ad : Nat → Nat} {m F : Nat} {h : hH} {s : MS} {x1 : Int32} {x2 : Int32} {x3 : Int64} {q : (Int32 × MS)} (R : RepM ad m h s) (hN : N_Mo_haul F s x1 x2 x3 = some q) : ∃ h2, M_Mo_haul F h m x1 x2 x3 = some (q.1, h2) ∧ RepM ad m h2 q.2 := by
  unfold N_Mo_haul at hN
  unfold M_Mo_haul
  obtain ⟨y1, ey1, hN⟩ := hb_some hN
  obtain ⟨h2, eh2, R⟩ := rPut R (k := 0) (v := 0) rfl
  rw [Option.some.inj ey1] at R
  refine ex_b eh2 ?_
  refine ex_if (fun c3 => ?_) (fun c3 => ?_)
  · have hN := hif_t hN c3
    obtain rfl := Option.some.inj hN
    exact ⟨_, rfl, R⟩
  · have hN := hif_f hN c3
    refine ex_if (fun c4 => ?_) (fun c4 => ?_)
    · have hN := hif_t hN c4
      obtain rfl := Option.some.inj hN
      exact ⟨_, rfl, R⟩
    · have hN := hif_f hN c4
      refine ex_if (fun c5 => ?_) (fun c5 => ?_)
      · have hN := hif_t hN c5
        obtain rfl := Option.some.inj hN
        exact ⟨_, rfl, R⟩
      · have hN := hif_f hN c5
        refine ex_if (fun c6 => ?_) (fun c6 => ?_)
        · have hN := hif_t hN c6
          obtain rfl := Option.some.inj hN
          exact ⟨_, rfl, R⟩
        · have hN := hif_f hN c6
          refine ex_if (fun c7 => ?_) (fun c7 => ?_)
          · have hN := hif_t hN c7
            obtain rfl := Option.some.inj hN
            exact ⟨_, rfl, R⟩
          · have hN := hif_f hN c7
            refine ex_if (fun c8 => ?_) (fun c8 => ?_)
            · have hN := hif_t hN c8
              refine ex_b (rGetA R (k := 38) rfl) ?_
              obtain ⟨c9, hN⟩ := hnz hN
              refine ex_b (rLdL R (k := 38) rfl c9) ?_
              obtain ⟨c10, hN⟩ := hnz hN
              obtain ⟨y11, ey11, hN⟩ := hb_some hN
              obtain ⟨h12, eh12, R⟩ := rStJ R (k := 38) (x := (y1.2.2 38 ((8 * x1) + x2).toNatClampNeg) + x3) rfl c10
              rw [Option.some.inj ey11] at R
              refine ex_b eh12 ?_
              obtain rfl := Option.some.inj hN
              exact ⟨_, rfl, R⟩
            · have hN := hif_f hN c8
              obtain rfl := Option.some.inj hN
              exact ⟨_, rfl, R⟩
set_option maxHeartbeats 1000000 in
set_option maxRecDepth 100000 in
theorem bn_Mo_byCatch_102 {ad : Nat → Nat} {m F : Nat} {m102 : hH → Nat → Int32 → Int32 → Int32 → Int64 → Int64 → Int64 → Option (Int64 × hH)} {r102 : MS → Int32 → Int32 → Int32 → Int64 → Int64 → Int64 → Option (Int64 × MS)} (P102 : ∀ (h : hH) (s : MS) (x1 : Int32) (x2 : Int32) (x3 : Int32) (x4 : Int64) (x6 : Int64) (x8 : Int64) (q : (Int64 × MS)), RepM ad m h s → r102 s x1 x2 x3 x4 x6 x8 = some q → ∃ h2, m102 h m x1 x2 x3 x4 x6 x8 = some (q.1, h2) ∧ RepM ad m h2 q.2) : ∀ (h : hH) (s : MS) (x1 : Int32) (x2 : Int32) (x3 : Int32) (x4 : Int64) (x6 : Int64) (x8 : Int64) (q : (Int64 × MS)), RepM ad m h s → BN_Mo_byCatch_102 F r102 s x1 x2 x3 x4 x6 x8 = some q → ∃ h2, B_Mo_byCatch_102 F m102 h m x1 x2 x3 x4 x6 x8 = some (q.1, h2) ∧ RepM ad m h2 q.2 := by
  intro h s x1 x2 x3 x4 x6 x8 q R hN
  unfold BN_Mo_byCatch_102 at hN
  unfold B_Mo_byCatch_102
  refine ex_if (fun c1 => ?_) (fun c1 => ?_)
  · have hN := hif_t hN c1
    refine ex_if (fun c2 => ?_) (fun c2 => ?_)
    · have hN := hif_t hN c2
      refine ex_b (rGetA R (k := 38) rfl) ?_
      obtain ⟨c4, hN⟩ := hnz hN
      refine ex_b (rLdL R (k := 38) rfl c4) ?_
      obtain ⟨c5, hN⟩ := hnz hN
      refine ex_if0 c5 ?_
      obtain rfl := Option.some.inj hN
      exact ⟨_, rfl, R⟩
    · have hN := hif_f hN c2
      obtain ⟨c3, hN⟩ := hnz hN
      refine ex_if0 c3 ?_
      obtain rfl := Option.some.inj hN
      exact ⟨_, rfl, R⟩
  · have hN := hif_f hN c1
    obtain ⟨c6, hN⟩ := hnz hN
    refine ex_if0 c6 ?_
    exact P102 _ _ _ _ _ _ _ _ _ R hN
theorem n_Mo_byCatch_102 {ad : Nat → Nat} {m F : Nat} : ∀ z : Nat, ∀ (h : hH) (s : MS) (x1 : Int32) (x2 : Int32) (x3 : Int32) (x4 : Int64) (x6 : Int64) (x8 : Int64) (q : (Int64 × MS)), RepM ad m h s → N_Mo_byCatch_102 F z s x1 x2 x3 x4 x6 x8 = some q → ∃ h2, M_Mo_byCatch_102 F z h m x1 x2 x3 x4 x6 x8 = some (q.1, h2) ∧ RepM ad m h2 q.2 := by
  intro z
  induction z with
  | zero => intro h s x1 x2 x3 x4 x6 x8 q R hN; exact absurd (show (none : Option _) = some q from hN) (fun t => by cases t)
  | succ z ih => exact bn_Mo_byCatch_102 ih
set_option maxHeartbeats 1000000 in
set_option maxRecDepth 100000 in
theorem bn_Mo_byCatch_44 {ad : Nat → Nat} {m F : Nat} {m44 : hH → Nat → Int32 → Int32 → Int32 → Int64 → Int32 → Option (Int64 × hH)} {r44 : MS → Int32 → Int32 → Int32 → Int64 → Int32 → Option (Int64 × MS)} (P44 : ∀ (h : hH) (s : MS) (x1 : Int32) (x2 : Int32) (x3 : Int32) (x4 : Int64) (x6 : Int32) (q : (Int64 × MS)), RepM ad m h s → r44 s x1 x2 x3 x4 x6 = some q → ∃ h2, m44 h m x1 x2 x3 x4 x6 = some (q.1, h2) ∧ RepM ad m h2 q.2) : ∀ (h : hH) (s : MS) (x1 : Int32) (x2 : Int32) (x3 : Int32) (x4 : Int64) (x6 : Int32) (q : (Int64 × MS)), RepM ad m h s → BN_Mo_byCatch_44 F r44 s x1 x2 x3 x4 x6 = some q → ∃ h2, B_Mo_byCatch_44 F m44 h m x1 x2 x3 x4 x6 = some (q.1, h2) ∧ RepM ad m h2 q.2 := by
  intro h s x1 x2 x3 x4 x6 q R hN
  unfold BN_Mo_byCatch_44 at hN
  unfold B_Mo_byCatch_44
  refine ex_if (fun c1 => ?_) (fun c1 => ?_)
  · have hN := hif_t hN c1
    refine ex_if (fun c2 => ?_) (fun c2 => ?_)
    · have hN := hif_t hN c2
      obtain rfl := Option.some.inj hN
      exact ⟨_, rfl, R⟩
    · have hN := hif_f hN c2
      refine ex_b (rGetA R (k := 38) rfl) ?_
      obtain ⟨c3, hN⟩ := hnz hN
      refine ex_b (rLdL R (k := 38) rfl c3) ?_
      exact n_Mo_byCatch_102 F _ _ _ _ _ _ _ _ _ R hN
  · have hN := hif_f hN c1
    refine ex_b (rGetA R (k := 38) rfl) ?_
    obtain ⟨c4, hN⟩ := hnz hN
    refine ex_b (rLdL R (k := 38) rfl c4) ?_
    exact P44 _ _ _ _ _ _ _ _ R hN
theorem n_Mo_byCatch_44 {ad : Nat → Nat} {m F : Nat} : ∀ z : Nat, ∀ (h : hH) (s : MS) (x1 : Int32) (x2 : Int32) (x3 : Int32) (x4 : Int64) (x6 : Int32) (q : (Int64 × MS)), RepM ad m h s → N_Mo_byCatch_44 F z s x1 x2 x3 x4 x6 = some q → ∃ h2, M_Mo_byCatch_44 F z h m x1 x2 x3 x4 x6 = some (q.1, h2) ∧ RepM ad m h2 q.2 := by
  intro z
  induction z with
  | zero => intro h s x1 x2 x3 x4 x6 q R hN; exact absurd (show (none : Option _) = some q from hN) (fun t => by cases t)
  | succ z ih => exact bn_Mo_byCatch_44 ih
set_option maxHeartbeats 1000000 in
set_option maxRecDepth 100000 in
theorem n_Mo_byCatch {ad : Nat → Nat} {m F : Nat} {h : hH} {s : MS} {x1 : Int32} {x2 : Int32} {x3 : Int32} {q : (Int64 × MS)} (R : RepM ad m h s) (hN : N_Mo_byCatch F s x1 x2 x3 = some q) : ∃ h2, M_Mo_byCatch F h m x1 x2 x3 = some (q.1, h2) ∧ RepM ad m h2 q.2 := by
  unfold N_Mo_byCatch at hN
  unfold M_Mo_byCatch
  obtain ⟨y1, ey1, hN⟩ := hb_some hN
  obtain ⟨h2, eh2, R⟩ := rPut R (k := 0) (v := 0) rfl
  rw [Option.some.inj ey1] at R
  refine ex_b eh2 ?_
  refine ex_if (fun c3 => ?_) (fun c3 => ?_)
  · have hN := hif_t hN c3
    obtain rfl := Option.some.inj hN
    exact ⟨_, rfl, R⟩
  · have hN := hif_f hN c3
    refine ex_if (fun c4 => ?_) (fun c4 => ?_)
    · have hN := hif_t hN c4
      obtain rfl := Option.some.inj hN
      exact ⟨_, rfl, R⟩
    · have hN := hif_f hN c4
      refine ex_if (fun c5 => ?_) (fun c5 => ?_)
      · have hN := hif_t hN c5
        obtain rfl := Option.some.inj hN
        exact ⟨_, rfl, R⟩
      · have hN := hif_f hN c5
        refine ex_if (fun c6 => ?_) (fun c6 => ?_)
        · have hN := hif_t hN c6
          obtain rfl := Option.some.inj hN
          exact ⟨_, rfl, R⟩
        · have hN := hif_f hN c6
          refine ex_if (fun c7 => ?_) (fun c7 => ?_)
          · have hN := hif_t hN c7
            obtain rfl := Option.some.inj hN
            exact ⟨_, rfl, R⟩
          · have hN := hif_f hN c7
            refine ex_if (fun c8 => ?_) (fun c8 => ?_)
            · have hN := hif_t hN c8
              exact n_Mo_byCatch_44 F _ _ _ _ _ _ _ _ R hN
            · have hN := hif_f hN c8
              obtain rfl := Option.some.inj hN
              exact ⟨_, rfl, R⟩
