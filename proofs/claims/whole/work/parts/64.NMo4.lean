def N_Mo_holds (F : Nat) (s : MS) (x0 : Int32) (x1 : Int64) (x3 : Int64) : Option (Int32 × MS) :=
  if x0 = (-15) then (
    if 0 ≤ (lg_cmp x1 x3) then (
      some (0, s)
    ) else (
      some (1, s)
    )
  ) else (
    if x0 = (-16) then (
      if 0 < (lg_cmp x1 x3) then (
        some (0, s)
      ) else (
        some (1, s)
      )
    ) else (
      if x0 = (-17) then (
        if (lg_cmp x1 x3) = 0 then (
          some (1, s)
        ) else (
          some (0, s)
        )
      ) else (
        if (lg_cmp x1 x3) = 0 then (
          some (0, s)
        ) else (
          some (1, s)
        )
      )
    )
  )
def N_Mo_reckon (F : Nat) (s : MS) (x0 : Int32) (x1 : Int64) (x3 : Int64) : Option (Int64 × MS) :=
  if x0 = (-10) then (
    some (x1 + x3, s)
  ) else (
    if x0 = (-11) then (
      some (x1 - x3, s)
    ) else (
      if x0 = (-12) then (
        some (x1 * x3, s)
      ) else (
        if x0 = (-13) then (
          if x3 = 0 then none else
          some (x1 / x3, s)
        ) else (
          if x3 = 0 then none else
          some (x1 - x1 / x3 * x3, s)
        )
      )
    )
  )
def N_Mo_look_336 (F : Nat) (r18 : MS → Int32 → Int32 → Int32 → Int32 → Option (Int32 × MS)) (s : MS) (x1 : Int32) (x3 : Int32) (x4 : Int32) (x5 : Int32) : Option (Int32 × MS) :=
  r18 s x1 x3 x4 (x5 + 1)
def N_Mo_look_256 (F : Nat) (r18 : MS → Int32 → Int32 → Int32 → Int32 → Option (Int32 × MS)) (s : MS) (x1 : Int32) (x3 : Int32) (x4 : Int32) (x5 : Int32) (x6 : Int32) : Option (Int32 × MS) :=
  if ((x4 + (-1)) - 1) < 0 ∨ 500 ≤ ((x4 + (-1)) - 1).toNatClampNeg then none else
  if (x4 + (-1)) < 0 ∨ 500 ≤ (x4 + (-1)).toNatClampNeg then none else
  (N_Mo_reckon F s x6 (s.2.2 35 ((x4 + (-1)) - 1).toNatClampNeg) (s.2.2 35 (x4 + (-1)).toNatClampNeg)).bind fun q3 =>
  if ((x4 + (-1)) - 1) < 0 ∨ 500 ≤ ((x4 + (-1)) - 1).toNatClampNeg then none else
  (some (sStL q3.2 35 ((x4 + (-1)) - 1).toNatClampNeg q3.1)).bind fun y6 =>
  N_Mo_look_336 F r18 y6 x1 x3 (x4 + (-1)) x5
def BN_Mo_look_18 (F : Nat) (r18 : MS → Int32 → Int32 → Int32 → Int32 → Option (Int32 × MS)) (s : MS) (x1 : Int32) (x3 : Int32) (x4 : Int32) (x5 : Int32) : Option (Int32 × MS) :=
  if x3 < 0 ∨ 72 ≤ x3.toNatClampNeg then none else
  if (s.2.1 16 x3.toNatClampNeg) ≤ x5 then (
    some (0, s)
  ) else (
    if ((400 * x1) + x5) < 0 ∨ 2400 ≤ ((400 * x1) + x5).toNatClampNeg then none else
    if ((400 * x1) + x5) < 0 ∨ 2400 ≤ ((400 * x1) + x5).toNatClampNeg then none else
    (some (sPut s 34 (-1))).bind fun y5 =>
    if (s.2.1 19 ((400 * x1) + x5).toNatClampNeg) = (-21) then (
      if x4 < 0 ∨ 500 ≤ x4.toNatClampNeg then none else
      (some (sStL y5 35 x4.toNatClampNeg ((s.2.1 20 ((400 * x1) + x5).toNatClampNeg).toInt64))).bind fun y48 =>
      N_Mo_look_336 F r18 y48 x1 x3 (x4 + 1) x5
    ) else (
      if (s.2.1 19 ((400 * x1) + x5).toNatClampNeg) = (-6) then (
        if (s.2.1 20 ((400 * x1) + x5).toNatClampNeg) < 0 ∨ 20 ≤ (s.2.1 20 ((400 * x1) + x5).toNatClampNeg).toNatClampNeg then none else
        if (y5.2.1 28 (s.2.1 20 ((400 * x1) + x5).toNatClampNeg).toNatClampNeg) = 0 then (
          (some (sPut y5 33 3)).bind fun y43 =>
          (some (sPut y43 34 (s.2.1 20 ((400 * x1) + x5).toNatClampNeg))).bind fun y45 =>
          some (2, y45)
        ) else (
          if (s.2.1 20 ((400 * x1) + x5).toNatClampNeg) < 0 ∨ 20 ≤ (s.2.1 20 ((400 * x1) + x5).toNatClampNeg).toNatClampNeg then none else
          if x4 < 0 ∨ 500 ≤ x4.toNatClampNeg then none else
          (some (sStL y5 35 x4.toNatClampNeg (y5.2.2 27 (s.2.1 20 ((400 * x1) + x5).toNatClampNeg).toNatClampNeg))).bind fun y41 =>
          N_Mo_look_336 F r18 y41 x1 x3 (x4 + 1) x5
        )
      ) else (
        if (s.2.1 19 ((400 * x1) + x5).toNatClampNeg) = (-7) then (
          if (x4 - 1) < 0 ∨ 500 ≤ (x4 - 1).toNatClampNeg then none else
          if (lg_cmp (y5.2.2 35 (x4 - 1).toNatClampNeg) 0) < 0 then (
            (some (sPut y5 33 2)).bind fun y27 =>
            some (2, y27)
          ) else (
            if ((8 * x1) + (s.2.1 20 ((400 * x1) + x5).toNatClampNeg)) < 0 ∨ 48 ≤ ((8 * x1) + (s.2.1 20 ((400 * x1) + x5).toNatClampNeg)).toNatClampNeg then none else
            if (lg_cmp (y5.2.2 35 (x4 - 1).toNatClampNeg) ((y5.2.1 11 ((8 * x1) + (s.2.1 20 ((400 * x1) + x5).toNatClampNeg)).toNatClampNeg).toInt64)) < 0 then (
              if (((80 * x1) + (10 * (s.2.1 20 ((400 * x1) + x5).toNatClampNeg))) + ((y5.2.2 35 (x4 - 1).toNatClampNeg).toInt32)) < 0 ∨ 480 ≤ (((80 * x1) + (10 * (s.2.1 20 ((400 * x1) + x5).toNatClampNeg))) + ((y5.2.2 35 (x4 - 1).toNatClampNeg).toInt32)).toNatClampNeg then none else
              if (x4 - 1) < 0 ∨ 500 ≤ (x4 - 1).toNatClampNeg then none else
              (some (sStL y5 35 (x4 - 1).toNatClampNeg ((y5.2.1 12 (((80 * x1) + (10 * (s.2.1 20 ((400 * x1) + x5).toNatClampNeg))) + ((y5.2.2 35 (x4 - 1).toNatClampNeg).toInt32)).toNatClampNeg).toInt64))).bind fun y33 =>
              N_Mo_look_336 F r18 y33 x1 x3 x4 x5
            ) else (
              (some (sPut y5 33 2)).bind fun y35 =>
              some (2, y35)
            )
          )
        ) else (
          (N_Mo_isOperator F y5 (s.2.1 19 ((400 * x1) + x5).toNatClampNeg)).bind fun q10 =>
          if q10.1 = 0 then (
            if (x4 + (-2)) < 0 ∨ 500 ≤ (x4 + (-2)).toNatClampNeg then none else
            if ((x4 + (-2)) + 1) < 0 ∨ 500 ≤ ((x4 + (-2)) + 1).toNatClampNeg then none else
            (N_Mo_holds F q10.2 (s.2.1 19 ((400 * x1) + x5).toNatClampNeg) (q10.2.2.2 35 (x4 + (-2)).toNatClampNeg) (q10.2.2.2 35 ((x4 + (-2)) + 1).toNatClampNeg)).bind fun q15 =>
            if q15.1 = 0 then (
              if x3 < 0 ∨ 72 ≤ x3.toNatClampNeg then none else
              if (q15.2.2.1 15 x3.toNatClampNeg) ≤ x5 then (
                some (1, q15.2)
              ) else (
                some (3, q15.2)
              )
            ) else (
              N_Mo_look_336 F r18 q15.2 x1 x3 (x4 + (-2)) x5
            )
          ) else (
            if (-12) ≤ (s.2.1 19 ((400 * x1) + x5).toNatClampNeg) then (
              N_Mo_look_256 F r18 q10.2 x1 x3 x4 x5 (s.2.1 19 ((400 * x1) + x5).toNatClampNeg)
            ) else (
              if (x4 - 1) < 0 ∨ 500 ≤ (x4 - 1).toNatClampNeg then none else
              if (lg_cmp (q10.2.2.2 35 (x4 - 1).toNatClampNeg) 0) = 0 then (
                (some (sPut q10.2 33 1)).bind fun y23 =>
                some (2, y23)
              ) else (
                N_Mo_look_256 F r18 q10.2 x1 x3 x4 x5 (s.2.1 19 ((400 * x1) + x5).toNatClampNeg)
              )
            )
          )
        )
      )
    )
  )
def N_Mo_look_18 (F : Nat) : Nat → MS → Int32 → Int32 → Int32 → Int32 → Option (Int32 × MS)
  | 0 => fun _ _ _ _ _ => none
  | z + 1 => BN_Mo_look_18 F (N_Mo_look_18 F z)
def N_Mo_look (F : Nat) (s : MS) (x1 : Int32) (x2 : Int32) : Option (Int32 × MS) :=
  if ((12 * x1) + x2) < 0 ∨ 72 ≤ ((12 * x1) + x2).toNatClampNeg then none else
  N_Mo_look_18 F F s x1 ((12 * x1) + x2) 0 (s.2.1 14 ((12 * x1) + x2).toNatClampNeg)
def N_Mo_answer_112 (F : Nat) (r24 : MS → Int32 → Int32 → Int32 → Int32 → Int32 → Int32 → Option (Int32 × MS)) (s : MS) (x1 : Int32) (x2 : Int32) (x3 : Int32) (x4 : Int32) (x5 : Int32) (x6 : Int32) : Option (Int32 × MS) :=
  r24 s x1 x2 x3 x4 x5 (x6 + 1)
def N_Mo_answer_75 (F : Nat) (r24 : MS → Int32 → Int32 → Int32 → Int32 → Int32 → Int32 → Option (Int32 × MS)) (s : MS) (x1 : Int32) (x2 : Int32) (x3 : Int32) (x5 : Int32) (x6 : Int32) (x7 : Int32) (s0 : Int32) : Option (Int32 × MS) :=
  if x2 = 0 then (
    N_Mo_answer_112 F r24 s x1 x2 x3 s0 x5 x6
  ) else (
    if x6 < 0 ∨ 12 ≤ x6.toNatClampNeg then none else
    (some (sStI s 30 x6.toNatClampNeg x7)).bind fun y3 =>
    if x6 < 0 ∨ 12 ≤ x6.toNatClampNeg then none else
    (some (sStI y3 31 x6.toNatClampNeg (y3.1 33))).bind fun y6 =>
    if x6 < 0 ∨ 12 ≤ x6.toNatClampNeg then none else
    (some (sStI y6 32 x6.toNatClampNeg (y6.1 34))).bind fun y9 =>
    N_Mo_answer_112 F r24 y9 x1 x2 x3 s0 x5 x6
  )
def N_Mo_answer_70 (F : Nat) (r24 : MS → Int32 → Int32 → Int32 → Int32 → Int32 → Int32 → Option (Int32 × MS)) (s : MS) (x1 : Int32) (x2 : Int32) (x3 : Int32) (x5 : Int32) (x6 : Int32) (x7 : Int32) : Option (Int32 × MS) :=
  N_Mo_answer_75 F r24 s x1 x2 x3 x5 x6 x7 1
def N_Mo_answer_58 (F : Nat) (r24 : MS → Int32 → Int32 → Int32 → Int32 → Int32 → Int32 → Option (Int32 × MS)) (s : MS) (x1 : Int32) (x2 : Int32) (x4 : Int32) (x5 : Int32) (x6 : Int32) (x7 : Int32) (s0 : Int32) : Option (Int32 × MS) :=
  if x4 = 0 then (
    if x7 = 2 then (
      N_Mo_answer_70 F r24 s x1 x2 s0 x5 x6 x7
    ) else (
      N_Mo_answer_75 F r24 s x1 x2 s0 x5 x6 x7 0
    )
  ) else (
    N_Mo_answer_70 F r24 s x1 x2 s0 x5 x6 x7
  )
def N_Mo_answer_57 (F : Nat) (r24 : MS → Int32 → Int32 → Int32 → Int32 → Int32 → Int32 → Option (Int32 × MS)) (s : MS) (x1 : Int32) (x2 : Int32) (x3 : Int32) (x4 : Int32) (x5 : Int32) (x6 : Int32) (x7 : Int32) : Option (Int32 × MS) :=
  N_Mo_answer_58 F r24 s x1 x2 x4 x5 x6 x7 x3
def BN_Mo_answer_24 (F : Nat) (r24 : MS → Int32 → Int32 → Int32 → Int32 → Int32 → Int32 → Option (Int32 × MS)) (s : MS) (x1 : Int32) (x2 : Int32) (x3 : Int32) (x4 : Int32) (x5 : Int32) (x6 : Int32) : Option (Int32 × MS) :=
  if x5 ≤ x6 then (
    if x3 ≤ 0 then (
      if x4 = 0 then (
        some (0, s)
      ) else (
        some ((-1), s)
      )
    ) else (
      some (x3, s)
    )
  ) else (
    (N_Mo_look F s x1 x6).bind fun q4 =>
    if q4.1 = 1 then (
      if x3 = 0 then (
        N_Mo_answer_58 F r24 q4.2 x1 x2 x4 x5 x6 q4.1 (x6 + 1)
      ) else (
        N_Mo_answer_57 F r24 q4.2 x1 x2 x3 x4 x5 x6 q4.1
      )
    ) else (
      N_Mo_answer_57 F r24 q4.2 x1 x2 x3 x4 x5 x6 q4.1
    )
  )
def N_Mo_answer_24 (F : Nat) : Nat → MS → Int32 → Int32 → Int32 → Int32 → Int32 → Int32 → Option (Int32 × MS)
  | 0 => fun _ _ _ _ _ _ _ => none
  | z + 1 => BN_Mo_answer_24 F (N_Mo_answer_24 F z)
def N_Mo_answer_19 (F : Nat) (s : MS) (x1 : Int32) (x2 : Int32) (x3 : Int32) (x4 : Int32) (s0 : Int32) : Option (Int32 × MS) :=
  N_Mo_answer_24 F F s x1 x2 x3 x4 s0 0
def N_Mo_answer (F : Nat) (s : MS) (x1 : Int32) (x2 : Int32) : Option (Int32 × MS) :=
  if 0 ≤ x1 then (
    if x1 < 0 ∨ 6 ≤ x1.toNatClampNeg then none else
    N_Mo_answer_19 F s x1 x2 0 0 (s.2.1 13 x1.toNatClampNeg)
  ) else (
    N_Mo_answer_19 F s x1 x2 0 0 0
  )
def N_Mo_run (F : Nat) (s : MS) (x1 : Int32) : Option (Int32 × MS) :=
  (some (sPut s 0 0)).bind fun y1 =>
  (N_Mo_editionOf F y1 x1).bind fun q3 =>
  (some (sPut q3.2 29 q3.1)).bind fun y5 =>
  (N_Mo_answer F y5 (y5.1 29) 1).bind fun q7 =>
  some (q7.1, q7.2)
def N_Mo_walk (F : Nat) (s : MS) (x1 : Int32) : Option (Int32 × MS) :=
  (some (sPut s 0 0)).bind fun y1 =>
  (N_Mo_editionOf F y1 x1).bind fun q3 =>
  (N_Mo_answer F q3.2 q3.1 0).bind fun q5 =>
  some (q5.1, q5.2)
def N_Mo_ranRules (F : Nat) (s : MS) : Option (Int32 × MS) :=
  if 0 ≤ (s.1 29) then (
    if (s.1 29) < 0 ∨ 6 ≤ (s.1 29).toNatClampNeg then none else
    some (s.2.1 13 (s.1 29).toNatClampNeg, s)
  ) else (
    some (0, s)
  )
def N_Mo_withState_40 (F : Nat) (r5 : MS → Int32 → Int32 → Int32 → Int32 → Option (Int32 × MS)) (s : MS) (x1 : Int32) (x2 : Int32) (x3 : Int32) (x4 : Int32) : Option (Int32 × MS) :=
  r5 s x1 x2 x3 (x4 + 1)
def BN_Mo_withState_5 (F : Nat) (r5 : MS → Int32 → Int32 → Int32 → Int32 → Option (Int32 × MS)) (s : MS) (x1 : Int32) (x2 : Int32) (x3 : Int32) (x4 : Int32) : Option (Int32 × MS) :=
  (N_Mo_ranRules F s).bind fun q1 =>
  if q1.1 ≤ x4 then (
    some ((-1), q1.2)
  ) else (
    if x1 < 0 then (
      some ((-1), q1.2)
    ) else (
      if x4 < 0 ∨ 12 ≤ x4.toNatClampNeg then none else
      if (q1.2.2.1 30 x4.toNatClampNeg) = x2 then (
        if x3 = x1 then (
          some (x4, q1.2)
        ) else (
          N_Mo_withState_40 F r5 q1.2 x1 x2 (x3 + 1) x4
        )
      ) else (
        N_Mo_withState_40 F r5 q1.2 x1 x2 x3 x4
      )
    )
  )
def N_Mo_withState_5 (F : Nat) : Nat → MS → Int32 → Int32 → Int32 → Int32 → Option (Int32 × MS)
  | 0 => fun _ _ _ _ _ => none
  | z + 1 => BN_Mo_withState_5 F (N_Mo_withState_5 F z)
def N_Mo_withState (F : Nat) (s : MS) (x1 : Int32) (x2 : Int32) : Option (Int32 × MS) :=
  N_Mo_withState_5 F F s x1 x2 0 0
def N_Mo_broken (F : Nat) (s : MS) (x1 : Int32) (x2 : Int32) : Option (Int32 × MS) :=
  (some (sPut s 0 0)).bind fun y1 =>
  (N_Mo_withState F y1 x1 1).bind fun q3 =>
  if q3.1 < 0 then (
    some ((-1), q3.2)
  ) else (
    if x2 < 0 then (
      some ((-1), q3.2)
    ) else (
      if x2 ≤ 1 then (
        if x2 = 0 then (
          some (q3.1, q3.2)
        ) else (
          if ((12 * (q3.2.1 29)) + q3.1) < 0 ∨ 72 ≤ ((12 * (q3.2.1 29)) + q3.1).toNatClampNeg then none else
          some (q3.2.2.1 17 ((12 * (q3.2.1 29)) + q3.1).toNatClampNeg, q3.2)
        )
      ) else (
        some ((-1), q3.2)
      )
    )
  )
def N_Mo_open (F : Nat) (s : MS) (x1 : Int32) (x2 : Int32) : Option (Int32 × MS) :=
  (some (sPut s 0 0)).bind fun y1 =>
  (N_Mo_withState F y1 x1 2).bind fun q3 =>
  if q3.1 < 0 then (
    some ((-1), q3.2)
  ) else (
    if x2 < 0 then (
      some ((-1), q3.2)
    ) else (
      if x2 ≤ 2 then (
        if x2 = 0 then (
          some (q3.1, q3.2)
        ) else (
          if x2 = 1 then (
            if q3.1 < 0 ∨ 12 ≤ q3.1.toNatClampNeg then none else
            some (q3.2.2.1 31 q3.1.toNatClampNeg, q3.2)
          ) else (
            if q3.1 < 0 ∨ 12 ≤ q3.1.toNatClampNeg then none else
            some (q3.2.2.1 32 q3.1.toNatClampNeg, q3.2)
          )
        )
      ) else (
        some ((-1), q3.2)
      )
    )
  )
def N_Mo_explain (F : Nat) (s : MS) (x1 : Int32) : Option (Int32 × MS) :=
  (some (sPut s 0 0)).bind fun y1 =>
  if x1 < 0 then (
    some ((-1), y1)
  ) else (
    (N_Mo_ranRules F y1).bind fun q4 =>
    if x1 < q4.1 then (
      if x1 < 0 ∨ 12 ≤ x1.toNatClampNeg then none else
      some (q4.2.2.1 30 x1.toNatClampNeg, q4.2)
    ) else (
      some ((-1), q4.2)
    )
  )
set_option maxHeartbeats 1000000 in
set_option maxRecDepth 100000 in
theorem n_Mo_holds {ad : Nat → Nat} {m F : Nat} {h : hH} {s : MS} {x0 : Int32} {x1 : Int64} {x3 : Int64} {q : (Int32 × MS)} (R : RepM ad m h s) (hN : N_Mo_holds F s x0 x1 x3 = some q) : ∃ h2, M_Mo_holds F h x0 x1 x3 = some (q.1, h2) ∧ RepM ad m h2 q.2 := by
  unfold N_Mo_holds at hN
  unfold M_Mo_holds
  refine ex_if (fun c1 => ?_) (fun c1 => ?_)
  · have hN := hif_t hN c1
    refine ex_if (fun c7 => ?_) (fun c7 => ?_)
    · have hN := hif_t hN c7
      obtain rfl := Option.some.inj hN
      exact ⟨_, rfl, R⟩
    · have hN := hif_f hN c7
      obtain rfl := Option.some.inj hN
      exact ⟨_, rfl, R⟩
  · have hN := hif_f hN c1
    refine ex_if (fun c2 => ?_) (fun c2 => ?_)
    · have hN := hif_t hN c2
      refine ex_if (fun c6 => ?_) (fun c6 => ?_)
      · have hN := hif_t hN c6
        obtain rfl := Option.some.inj hN
        exact ⟨_, rfl, R⟩
      · have hN := hif_f hN c6
        obtain rfl := Option.some.inj hN
        exact ⟨_, rfl, R⟩
    · have hN := hif_f hN c2
      refine ex_if (fun c3 => ?_) (fun c3 => ?_)
      · have hN := hif_t hN c3
        refine ex_if (fun c5 => ?_) (fun c5 => ?_)
        · have hN := hif_t hN c5
          obtain rfl := Option.some.inj hN
          exact ⟨_, rfl, R⟩
        · have hN := hif_f hN c5
          obtain rfl := Option.some.inj hN
          exact ⟨_, rfl, R⟩
      · have hN := hif_f hN c3
        refine ex_if (fun c4 => ?_) (fun c4 => ?_)
        · have hN := hif_t hN c4
          obtain rfl := Option.some.inj hN
          exact ⟨_, rfl, R⟩
        · have hN := hif_f hN c4
          obtain rfl := Option.some.inj hN
          exact ⟨_, rfl, R⟩
set_option maxHeartbeats 1000000 in
set_option maxRecDepth 100000 in
theorem n_Mo_reckon {ad : Nat → Nat} {m F : Nat} {h : hH} {s : MS} {x0 : Int32} {x1 : Int64} {x3 : Int64} {q : (Int64 × MS)} (R : RepM ad m h s) (hN : N_Mo_reckon F s x0 x1 x3 = some q) : ∃ h2, M_Mo_reckon F h x0 x1 x3 = some (q.1, h2) ∧ RepM ad m h2 q.2 := by
  unfold N_Mo_reckon at hN
  unfold M_Mo_reckon
  refine ex_if (fun c1 => ?_) (fun c1 => ?_)
  · have hN := hif_t hN c1
    obtain rfl := Option.some.inj hN
    exact ⟨_, rfl, R⟩
  · have hN := hif_f hN c1
    refine ex_if (fun c2 => ?_) (fun c2 => ?_)
    · have hN := hif_t hN c2
      obtain rfl := Option.some.inj hN
      exact ⟨_, rfl, R⟩
    · have hN := hif_f hN c2
      refine ex_if (fun c3 => ?_) (fun c3 => ?_)
      · have hN := hif_t hN c3
        obtain rfl := Option.some.inj hN
        exact ⟨_, rfl, R⟩
      · have hN := hif_f hN c3
        refine ex_if (fun c4 => ?_) (fun c4 => ?_)
        · have hN := hif_t hN c4
          obtain ⟨c6, hN⟩ := hnz hN
          refine ex_if0 c6 ?_
          obtain rfl := Option.some.inj hN
          exact ⟨_, rfl, R⟩
        · have hN := hif_f hN c4
          obtain ⟨c5, hN⟩ := hnz hN
          refine ex_if0 c5 ?_
          obtain rfl := Option.some.inj hN
          exact ⟨_, rfl, R⟩
set_option maxHeartbeats 1000000 in
set_option maxRecDepth 100000 in
theorem n_Mo_look_336 {ad : Nat → Nat} {m F : Nat} {m18 : hH → Nat → Int32 → Int32 → Int32 → Int32 → Option (Int32 × hH)} {r18 : MS → Int32 → Int32 → Int32 → Int32 → Option (Int32 × MS)} (P18 : ∀ (h : hH) (s : MS) (x1 : Int32) (x3 : Int32) (x4 : Int32) (x5 : Int32) (q : (Int32 × MS)), RepM ad m h s → r18 s x1 x3 x4 x5 = some q → ∃ h2, m18 h m x1 x3 x4 x5 = some (q.1, h2) ∧ RepM ad m h2 q.2) : ∀ (h : hH) (s : MS) (x1 : Int32) (x3 : Int32) (x4 : Int32) (x5 : Int32) (q : (Int32 × MS)), RepM ad m h s → N_Mo_look_336 F r18 s x1 x3 x4 x5 = some q → ∃ h2, M_Mo_look_336 F m18 h m x1 x3 x4 x5 = some (q.1, h2) ∧ RepM ad m h2 q.2 := by
  intro h s x1 x3 x4 x5 q R hN
  unfold N_Mo_look_336 at hN
  unfold M_Mo_look_336
  exact P18 _ _ _ _ _ _ _ R hN
set_option maxHeartbeats 1000000 in
set_option maxRecDepth 100000 in
theorem n_Mo_look_256 {ad : Nat → Nat} {m F : Nat} {m18 : hH → Nat → Int32 → Int32 → Int32 → Int32 → Option (Int32 × hH)} {r18 : MS → Int32 → Int32 → Int32 → Int32 → Option (Int32 × MS)} (P18 : ∀ (h : hH) (s : MS) (x1 : Int32) (x3 : Int32) (x4 : Int32) (x5 : Int32) (q : (Int32 × MS)), RepM ad m h s → r18 s x1 x3 x4 x5 = some q → ∃ h2, m18 h m x1 x3 x4 x5 = some (q.1, h2) ∧ RepM ad m h2 q.2) : ∀ (h : hH) (s : MS) (x1 : Int32) (x3 : Int32) (x4 : Int32) (x5 : Int32) (x6 : Int32) (q : (Int32 × MS)), RepM ad m h s → N_Mo_look_256 F r18 s x1 x3 x4 x5 x6 = some q → ∃ h2, M_Mo_look_256 F m18 h m x1 x3 x4 x5 x6 = some (q.1, h2) ∧ RepM ad m h2 q.2 := by
  intro h s x1 x3 x4 x5 x6 q R hN
  unfold N_Mo_look_256 at hN
  unfold M_Mo_look_256
  refine ex_b (rGetA R (k := 35) rfl) ?_
  refine ex_b (rGetA R (k := 35) rfl) ?_
  obtain ⟨c1, hN⟩ := hnz hN
  refine ex_b (rLdL R (k := 35) rfl c1) ?_
  refine ex_b (rGetA R (k := 35) rfl) ?_
  obtain ⟨c2, hN⟩ := hnz hN
  refine ex_b (rLdL R (k := 35) rfl c2) ?_
  obtain ⟨q3, eq3, hN⟩ := hb_some hN
  obtain ⟨h4, eh4, R⟩ := n_Mo_reckon R eq3
  refine ex_b eh4 ?_
  obtain ⟨c5, hN⟩ := hnz hN
  obtain ⟨y6, ey6, hN⟩ := hb_some hN
  obtain ⟨h7, eh7, R⟩ := rStJ R (k := 35) (x := q3.1) rfl c5
  rw [Option.some.inj ey6] at R
  refine ex_b eh7 ?_
  exact n_Mo_look_336 P18 _ _ _ _ _ _ _ R hN
set_option maxHeartbeats 1000000 in
set_option maxRecDepth 100000 in
theorem bn_Mo_look_18 {ad : Nat → Nat} {m F : Nat} {m18 : hH → Nat → Int32 → Int32 → Int32 → Int32 → Option (Int32 × hH)} {r18 : MS → Int32 → Int32 → Int32 → Int32 → Option (Int32 × MS)} (P18 : ∀ (h : hH) (s : MS) (x1 : Int32) (x3 : Int32) (x4 : Int32) (x5 : Int32) (q : (Int32 × MS)), RepM ad m h s → r18 s x1 x3 x4 x5 = some q → ∃ h2, m18 h m x1 x3 x4 x5 = some (q.1, h2) ∧ RepM ad m h2 q.2) : ∀ (h : hH) (s : MS) (x1 : Int32) (x3 : Int32) (x4 : Int32) (x5 : Int32) (q : (Int32 × MS)), RepM ad m h s → BN_Mo_look_18 F r18 s x1 x3 x4 x5 = some q → ∃ h2, B_Mo_look_18 F m18 h m x1 x3 x4 x5 = some (q.1, h2) ∧ RepM ad m h2 q.2 := by
  intro h s x1 x3 x4 x5 q R hN
  unfold BN_Mo_look_18 at hN
  unfold B_Mo_look_18
  refine ex_b (rGetA R (k := 16) rfl) ?_
  obtain ⟨c1, hN⟩ := hnz hN
  refine ex_b (rLdI R (k := 16) rfl c1) ?_
  refine ex_if (fun c2 => ?_) (fun c2 => ?_)
  · have hN := hif_t hN c2
    obtain rfl := Option.some.inj hN
    exact ⟨_, rfl, R⟩
  · have hN := hif_f hN c2
    refine ex_b (rGetA R (k := 19) rfl) ?_
    obtain ⟨c3, hN⟩ := hnz hN
    refine ex_b (rLdI R (k := 19) rfl c3) ?_
    refine ex_b (rGetA R (k := 20) rfl) ?_
    obtain ⟨c4, hN⟩ := hnz hN
    refine ex_b (rLdI R (k := 20) rfl c4) ?_
    obtain ⟨y5, ey5, hN⟩ := hb_some hN
    obtain ⟨h6, eh6, R⟩ := rPut R (k := 34) (v := (-1)) rfl
    rw [Option.some.inj ey5] at R
    refine ex_b eh6 ?_
    refine ex_if (fun c7 => ?_) (fun c7 => ?_)
    · have hN := hif_t hN c7
      refine ex_b (rGetA R (k := 35) rfl) ?_
      obtain ⟨c47, hN⟩ := hnz hN
      obtain ⟨y48, ey48, hN⟩ := hb_some hN
      obtain ⟨h49, eh49, R⟩ := rStJ R (k := 35) (x := (s.2.1 20 ((400 * x1) + x5).toNatClampNeg).toInt64) rfl c47
      rw [Option.some.inj ey48] at R
      refine ex_b eh49 ?_
      exact n_Mo_look_336 P18 _ _ _ _ _ _ _ R hN
    · have hN := hif_f hN c7
      refine ex_if (fun c8 => ?_) (fun c8 => ?_)
      · have hN := hif_t hN c8
        refine ex_b (rGetA R (k := 28) rfl) ?_
        obtain ⟨c37, hN⟩ := hnz hN
        refine ex_b (rLdI R (k := 28) rfl c37) ?_
        refine ex_if (fun c38 => ?_) (fun c38 => ?_)
        · have hN := hif_t hN c38
          obtain ⟨y43, ey43, hN⟩ := hb_some hN
          obtain ⟨h44, eh44, R⟩ := rPut R (k := 33) (v := 3) rfl
          rw [Option.some.inj ey43] at R
          refine ex_b eh44 ?_
          obtain ⟨y45, ey45, hN⟩ := hb_some hN
          obtain ⟨h46, eh46, R⟩ := rPut R (k := 34) (v := s.2.1 20 ((400 * x1) + x5).toNatClampNeg) rfl
          rw [Option.some.inj ey45] at R
          refine ex_b eh46 ?_
          obtain rfl := Option.some.inj hN
          exact ⟨_, rfl, R⟩
        · have hN := hif_f hN c38
          refine ex_b (rGetA R (k := 35) rfl) ?_
          refine ex_b (rGetA R (k := 27) rfl) ?_
          obtain ⟨c39, hN⟩ := hnz hN
          refine ex_b (rLdL R (k := 27) rfl c39) ?_
          obtain ⟨c40, hN⟩ := hnz hN
          obtain ⟨y41, ey41, hN⟩ := hb_some hN
          obtain ⟨h42, eh42, R⟩ := rStJ R (k := 35) (x := y5.2.2 27 (s.2.1 20 ((400 * x1) + x5).toNatClampNeg).toNatClampNeg) rfl c40
          rw [Option.some.inj ey41] at R
          refine ex_b eh42 ?_
          exact n_Mo_look_336 P18 _ _ _ _ _ _ _ R hN
      · have hN := hif_f hN c8
        refine ex_if (fun c9 => ?_) (fun c9 => ?_)
        · have hN := hif_t hN c9
          refine ex_b (rGetA R (k := 35) rfl) ?_
          obtain ⟨c25, hN⟩ := hnz hN
          refine ex_b (rLdL R (k := 35) rfl c25) ?_
          refine ex_if (fun c26 => ?_) (fun c26 => ?_)
          · have hN := hif_t hN c26
            obtain ⟨y27, ey27, hN⟩ := hb_some hN
            obtain ⟨h28, eh28, R⟩ := rPut R (k := 33) (v := 2) rfl
            rw [Option.some.inj ey27] at R
            refine ex_b eh28 ?_
            obtain rfl := Option.some.inj hN
            exact ⟨_, rfl, R⟩
          · have hN := hif_f hN c26
            refine ex_b (rGetA R (k := 11) rfl) ?_
            obtain ⟨c29, hN⟩ := hnz hN
            refine ex_b (rLdI R (k := 11) rfl c29) ?_
            refine ex_if (fun c30 => ?_) (fun c30 => ?_)
            · have hN := hif_t hN c30
              refine ex_b (rGetA R (k := 35) rfl) ?_
              refine ex_b (rGetA R (k := 12) rfl) ?_
              obtain ⟨c31, hN⟩ := hnz hN
              refine ex_b (rLdI R (k := 12) rfl c31) ?_
              obtain ⟨c32, hN⟩ := hnz hN
              obtain ⟨y33, ey33, hN⟩ := hb_some hN
              obtain ⟨h34, eh34, R⟩ := rStJ R (k := 35) (x := (y5.2.1 12 (((80 * x1) + (10 * (s.2.1 20 ((400 * x1) + x5).toNatClampNeg))) + ((y5.2.2 35 (x4 - 1).toNatClampNeg).toInt32)).toNatClampNeg).toInt64) rfl c32
              rw [Option.some.inj ey33] at R
              refine ex_b eh34 ?_
              exact n_Mo_look_336 P18 _ _ _ _ _ _ _ R hN
            · have hN := hif_f hN c30
              obtain ⟨y35, ey35, hN⟩ := hb_some hN
              obtain ⟨h36, eh36, R⟩ := rPut R (k := 33) (v := 2) rfl
              rw [Option.some.inj ey35] at R
              refine ex_b eh36 ?_
              obtain rfl := Option.some.inj hN
              exact ⟨_, rfl, R⟩
        · have hN := hif_f hN c9
          obtain ⟨q10, eq10, hN⟩ := hb_some hN
          obtain ⟨h11, eh11, R⟩ := n_Mo_isOperator R eq10
          refine ex_b eh11 ?_
          refine ex_if (fun c12 => ?_) (fun c12 => ?_)
          · have hN := hif_t hN c12
            refine ex_b (rGetA R (k := 35) rfl) ?_
            obtain ⟨c13, hN⟩ := hnz hN
            refine ex_b (rLdL R (k := 35) rfl c13) ?_
            refine ex_b (rGetA R (k := 35) rfl) ?_
            obtain ⟨c14, hN⟩ := hnz hN
            refine ex_b (rLdL R (k := 35) rfl c14) ?_
            obtain ⟨q15, eq15, hN⟩ := hb_some hN
            obtain ⟨h16, eh16, R⟩ := n_Mo_holds R eq15
            refine ex_b eh16 ?_
            refine ex_if (fun c17 => ?_) (fun c17 => ?_)
            · have hN := hif_t hN c17
              refine ex_b (rGetA R (k := 15) rfl) ?_
              obtain ⟨c18, hN⟩ := hnz hN
              refine ex_b (rLdI R (k := 15) rfl c18) ?_
              refine ex_if (fun c19 => ?_) (fun c19 => ?_)
              · have hN := hif_t hN c19
                obtain rfl := Option.some.inj hN
                exact ⟨_, rfl, R⟩
              · have hN := hif_f hN c19
                obtain rfl := Option.some.inj hN
                exact ⟨_, rfl, R⟩
            · have hN := hif_f hN c17
              exact n_Mo_look_336 P18 _ _ _ _ _ _ _ R hN
          · have hN := hif_f hN c12
            refine ex_if (fun c20 => ?_) (fun c20 => ?_)
            · have hN := hif_t hN c20
              exact n_Mo_look_256 P18 _ _ _ _ _ _ _ _ R hN
            · have hN := hif_f hN c20
              refine ex_b (rGetA R (k := 35) rfl) ?_
              obtain ⟨c21, hN⟩ := hnz hN
              refine ex_b (rLdL R (k := 35) rfl c21) ?_
              refine ex_if (fun c22 => ?_) (fun c22 => ?_)
              · have hN := hif_t hN c22
                obtain ⟨y23, ey23, hN⟩ := hb_some hN
                obtain ⟨h24, eh24, R⟩ := rPut R (k := 33) (v := 1) rfl
                rw [Option.some.inj ey23] at R
                refine ex_b eh24 ?_
                obtain rfl := Option.some.inj hN
                exact ⟨_, rfl, R⟩
              · have hN := hif_f hN c22
                exact n_Mo_look_256 P18 _ _ _ _ _ _ _ _ R hN
theorem n_Mo_look_18 {ad : Nat → Nat} {m F : Nat} : ∀ z : Nat, ∀ (h : hH) (s : MS) (x1 : Int32) (x3 : Int32) (x4 : Int32) (x5 : Int32) (q : (Int32 × MS)), RepM ad m h s → N_Mo_look_18 F z s x1 x3 x4 x5 = some q → ∃ h2, M_Mo_look_18 F z h m x1 x3 x4 x5 = some (q.1, h2) ∧ RepM ad m h2 q.2 := by
  intro z
  induction z with
  | zero => intro h s x1 x3 x4 x5 q R hN; exact absurd (show (none : Option _) = some q from hN) (fun t => by cases t)
  | succ z ih => exact bn_Mo_look_18 ih
set_option maxHeartbeats 1000000 in
set_option maxRecDepth 100000 in
theorem n_Mo_look {ad : Nat → Nat} {m F : Nat} {h : hH} {s : MS} {x1 : Int32} {x2 : Int32} {q : (Int32 × MS)} (R : RepM ad m h s) (hN : N_Mo_look F s x1 x2 = some q) : ∃ h2, M_Mo_look F h m x1 x2 = some (q.1, h2) ∧ RepM ad m h2 q.2 := by
  unfold N_Mo_look at hN
  unfold M_Mo_look
  refine ex_b (rGetA R (k := 14) rfl) ?_
  obtain ⟨c1, hN⟩ := hnz hN
  refine ex_b (rLdI R (k := 14) rfl c1) ?_
  exact n_Mo_look_18 F _ _ _ _ _ _ _ R hN
set_option maxHeartbeats 1000000 in
set_option maxRecDepth 100000 in
theorem n_Mo_answer_112 {ad : Nat → Nat} {m F : Nat} {m24 : hH → Nat → Int32 → Int32 → Int32 → Int32 → Int32 → Int32 → Option (Int32 × hH)} {r24 : MS → Int32 → Int32 → Int32 → Int32 → Int32 → Int32 → Option (Int32 × MS)} (P24 : ∀ (h : hH) (s : MS) (x1 : Int32) (x2 : Int32) (x3 : Int32) (x4 : Int32) (x5 : Int32) (x6 : Int32) (q : (Int32 × MS)), RepM ad m h s → r24 s x1 x2 x3 x4 x5 x6 = some q → ∃ h2, m24 h m x1 x2 x3 x4 x5 x6 = some (q.1, h2) ∧ RepM ad m h2 q.2) : ∀ (h : hH) (s : MS) (x1 : Int32) (x2 : Int32) (x3 : Int32) (x4 : Int32) (x5 : Int32) (x6 : Int32) (q : (Int32 × MS)), RepM ad m h s → N_Mo_answer_112 F r24 s x1 x2 x3 x4 x5 x6 = some q → ∃ h2, M_Mo_answer_112 F m24 h m x1 x2 x3 x4 x5 x6 = some (q.1, h2) ∧ RepM ad m h2 q.2 := by
  intro h s x1 x2 x3 x4 x5 x6 q R hN
  unfold N_Mo_answer_112 at hN
  unfold M_Mo_answer_112
  exact P24 _ _ _ _ _ _ _ _ _ R hN
set_option maxHeartbeats 1000000 in
set_option maxRecDepth 100000 in
theorem n_Mo_answer_75 {ad : Nat → Nat} {m F : Nat} {m24 : hH → Nat → Int32 → Int32 → Int32 → Int32 → Int32 → Int32 → Option (Int32 × hH)} {r24 : MS → Int32 → Int32 → Int32 → Int32 → Int32 → Int32 → Option (Int32 × MS)} (P24 : ∀ (h : hH) (s : MS) (x1 : Int32) (x2 : Int32) (x3 : Int32) (x4 : Int32) (x5 : Int32) (x6 : Int32) (q : (Int32 × MS)), RepM ad m h s → r24 s x1 x2 x3 x4 x5 x6 = some q → ∃ h2, m24 h m x1 x2 x3 x4 x5 x6 = some (q.1, h2) ∧ RepM ad m h2 q.2) : ∀ (h : hH) (s : MS) (x1 : Int32) (x2 : Int32) (x3 : Int32) (x5 : Int32) (x6 : Int32) (x7 : Int32) (s0 : Int32) (q : (Int32 × MS)), RepM ad m h s → N_Mo_answer_75 F r24 s x1 x2 x3 x5 x6 x7 s0 = some q → ∃ h2, M_Mo_answer_75 F m24 h m x1 x2 x3 x5 x6 x7 s0 = some (q.1, h2) ∧ RepM ad m h2 q.2 := by
  intro h s x1 x2 x3 x5 x6 x7 s0 q R hN
  unfold N_Mo_answer_75 at hN
  unfold M_Mo_answer_75
  refine ex_if (fun c1 => ?_) (fun c1 => ?_)
  · have hN := hif_t hN c1
    exact n_Mo_answer_112 P24 _ _ _ _ _ _ _ _ _ R hN
  · have hN := hif_f hN c1
    refine ex_b (rGetA R (k := 30) rfl) ?_
    obtain ⟨c2, hN⟩ := hnz hN
    obtain ⟨y3, ey3, hN⟩ := hb_some hN
    obtain ⟨h4, eh4, R⟩ := rStI R (k := 30) (x := x7) rfl c2
    rw [Option.some.inj ey3] at R
    refine ex_b eh4 ?_
    refine ex_b (rGetA R (k := 31) rfl) ?_
    refine ex_b (rGetI R (k := 33) rfl) ?_
    obtain ⟨c5, hN⟩ := hnz hN
    obtain ⟨y6, ey6, hN⟩ := hb_some hN
    obtain ⟨h7, eh7, R⟩ := rStI R (k := 31) (x := y3.1 33) rfl c5
    rw [Option.some.inj ey6] at R
    refine ex_b eh7 ?_
    refine ex_b (rGetA R (k := 32) rfl) ?_
    refine ex_b (rGetI R (k := 34) rfl) ?_
    obtain ⟨c8, hN⟩ := hnz hN
    obtain ⟨y9, ey9, hN⟩ := hb_some hN
    obtain ⟨h10, eh10, R⟩ := rStI R (k := 32) (x := y6.1 34) rfl c8
    rw [Option.some.inj ey9] at R
    refine ex_b eh10 ?_
    exact n_Mo_answer_112 P24 _ _ _ _ _ _ _ _ _ R hN
set_option maxHeartbeats 1000000 in
set_option maxRecDepth 100000 in
theorem n_Mo_answer_70 {ad : Nat → Nat} {m F : Nat} {m24 : hH → Nat → Int32 → Int32 → Int32 → Int32 → Int32 → Int32 → Option (Int32 × hH)} {r24 : MS → Int32 → Int32 → Int32 → Int32 → Int32 → Int32 → Option (Int32 × MS)} (P24 : ∀ (h : hH) (s : MS) (x1 : Int32) (x2 : Int32) (x3 : Int32) (x4 : Int32) (x5 : Int32) (x6 : Int32) (q : (Int32 × MS)), RepM ad m h s → r24 s x1 x2 x3 x4 x5 x6 = some q → ∃ h2, m24 h m x1 x2 x3 x4 x5 x6 = some (q.1, h2) ∧ RepM ad m h2 q.2) : ∀ (h : hH) (s : MS) (x1 : Int32) (x2 : Int32) (x3 : Int32) (x5 : Int32) (x6 : Int32) (x7 : Int32) (q : (Int32 × MS)), RepM ad m h s → N_Mo_answer_70 F r24 s x1 x2 x3 x5 x6 x7 = some q → ∃ h2, M_Mo_answer_70 F m24 h m x1 x2 x3 x5 x6 x7 = some (q.1, h2) ∧ RepM ad m h2 q.2 := by
  intro h s x1 x2 x3 x5 x6 x7 q R hN
  unfold N_Mo_answer_70 at hN
  unfold M_Mo_answer_70
  exact n_Mo_answer_75 P24 _ _ _ _ _ _ _ _ _ _ R hN
set_option maxHeartbeats 1000000 in
set_option maxRecDepth 100000 in
theorem n_Mo_answer_58 {ad : Nat → Nat} {m F : Nat} {m24 : hH → Nat → Int32 → Int32 → Int32 → Int32 → Int32 → Int32 → Option (Int32 × hH)} {r24 : MS → Int32 → Int32 → Int32 → Int32 → Int32 → Int32 → Option (Int32 × MS)} (P24 : ∀ (h : hH) (s : MS) (x1 : Int32) (x2 : Int32) (x3 : Int32) (x4 : Int32) (x5 : Int32) (x6 : Int32) (q : (Int32 × MS)), RepM ad m h s → r24 s x1 x2 x3 x4 x5 x6 = some q → ∃ h2, m24 h m x1 x2 x3 x4 x5 x6 = some (q.1, h2) ∧ RepM ad m h2 q.2) : ∀ (h : hH) (s : MS) (x1 : Int32) (x2 : Int32) (x4 : Int32) (x5 : Int32) (x6 : Int32) (x7 : Int32) (s0 : Int32) (q : (Int32 × MS)), RepM ad m h s → N_Mo_answer_58 F r24 s x1 x2 x4 x5 x6 x7 s0 = some q → ∃ h2, M_Mo_answer_58 F m24 h m x1 x2 x4 x5 x6 x7 s0 = some (q.1, h2) ∧ RepM ad m h2 q.2 := by
  intro h s x1 x2 x4 x5 x6 x7 s0 q R hN
  unfold N_Mo_answer_58 at hN
  unfold M_Mo_answer_58
  refine ex_if (fun c1 => ?_) (fun c1 => ?_)
  · have hN := hif_t hN c1
    refine ex_if (fun c2 => ?_) (fun c2 => ?_)
    · have hN := hif_t hN c2
      exact n_Mo_answer_70 P24 _ _ _ _ _ _ _ _ _ R hN
    · have hN := hif_f hN c2
      exact n_Mo_answer_75 P24 _ _ _ _ _ _ _ _ _ _ R hN
  · have hN := hif_f hN c1
    exact n_Mo_answer_70 P24 _ _ _ _ _ _ _ _ _ R hN
set_option maxHeartbeats 1000000 in
set_option maxRecDepth 100000 in
theorem n_Mo_answer_57 {ad : Nat → Nat} {m F : Nat} {m24 : hH → Nat → Int32 → Int32 → Int32 → Int32 → Int32 → Int32 → Option (Int32 × hH)} {r24 : MS → Int32 → Int32 → Int32 → Int32 → Int32 → Int32 → Option (Int32 × MS)} (P24 : ∀ (h : hH) (s : MS) (x1 : Int32) (x2 : Int32) (x3 : Int32) (x4 : Int32) (x5 : Int32) (x6 : Int32) (q : (Int32 × MS)), RepM ad m h s → r24 s x1 x2 x3 x4 x5 x6 = some q → ∃ h2, m24 h m x1 x2 x3 x4 x5 x6 = some (q.1, h2) ∧ RepM ad m h2 q.2) : ∀ (h : hH) (s : MS) (x1 : Int32) (x2 : Int32) (x3 : Int32) (x4 : Int32) (x5 : Int32) (x6 : Int32) (x7 : Int32) (q : (Int32 × MS)), RepM ad m h s → N_Mo_answer_57 F r24 s x1 x2 x3 x4 x5 x6 x7 = some q → ∃ h2, M_Mo_answer_57 F m24 h m x1 x2 x3 x4 x5 x6 x7 = some (q.1, h2) ∧ RepM ad m h2 q.2 := by
  intro h s x1 x2 x3 x4 x5 x6 x7 q R hN
  unfold N_Mo_answer_57 at hN
  unfold M_Mo_answer_57
  exact n_Mo_answer_58 P24 _ _ _ _ _ _ _ _ _ _ R hN
set_option maxHeartbeats 1000000 in
set_option maxRecDepth 100000 in
theorem bn_Mo_answer_24 {ad : Nat → Nat} {m F : Nat} {m24 : hH → Nat → Int32 → Int32 → Int32 → Int32 → Int32 → Int32 → Option (Int32 × hH)} {r24 : MS → Int32 → Int32 → Int32 → Int32 → Int32 → Int32 → Option (Int32 × MS)} (P24 : ∀ (h : hH) (s : MS) (x1 : Int32) (x2 : Int32) (x3 : Int32) (x4 : Int32) (x5 : Int32) (x6 : Int32) (q : (Int32 × MS)), RepM ad m h s → r24 s x1 x2 x3 x4 x5 x6 = some q → ∃ h2, m24 h m x1 x2 x3 x4 x5 x6 = some (q.1, h2) ∧ RepM ad m h2 q.2) : ∀ (h : hH) (s : MS) (x1 : Int32) (x2 : Int32) (x3 : Int32) (x4 : Int32) (x5 : Int32) (x6 : Int32) (q : (Int32 × MS)), RepM ad m h s → BN_Mo_answer_24 F r24 s x1 x2 x3 x4 x5 x6 = some q → ∃ h2, B_Mo_answer_24 F m24 h m x1 x2 x3 x4 x5 x6 = some (q.1, h2) ∧ RepM ad m h2 q.2 := by
  intro h s x1 x2 x3 x4 x5 x6 q R hN
  unfold BN_Mo_answer_24 at hN
  unfold B_Mo_answer_24
  refine ex_if (fun c1 => ?_) (fun c1 => ?_)
  · have hN := hif_t hN c1
    refine ex_if (fun c2 => ?_) (fun c2 => ?_)
    · have hN := hif_t hN c2
      refine ex_if (fun c3 => ?_) (fun c3 => ?_)
      · have hN := hif_t hN c3
        obtain rfl := Option.some.inj hN
        exact ⟨_, rfl, R⟩
      · have hN := hif_f hN c3
        obtain rfl := Option.some.inj hN
        exact ⟨_, rfl, R⟩
    · have hN := hif_f hN c2
      obtain rfl := Option.some.inj hN
      exact ⟨_, rfl, R⟩
  · have hN := hif_f hN c1
    obtain ⟨q4, eq4, hN⟩ := hb_some hN
    refine ex_b (rIs R) ?_
    obtain ⟨h5, eh5, R⟩ := n_Mo_look R eq4
    refine ex_b eh5 ?_
    refine ex_if (fun c6 => ?_) (fun c6 => ?_)
    · have hN := hif_t hN c6
      refine ex_if (fun c7 => ?_) (fun c7 => ?_)
      · have hN := hif_t hN c7
        exact n_Mo_answer_58 P24 _ _ _ _ _ _ _ _ _ _ R hN
      · have hN := hif_f hN c7
        exact n_Mo_answer_57 P24 _ _ _ _ _ _ _ _ _ _ R hN
    · have hN := hif_f hN c6
      exact n_Mo_answer_57 P24 _ _ _ _ _ _ _ _ _ _ R hN
theorem n_Mo_answer_24 {ad : Nat → Nat} {m F : Nat} : ∀ z : Nat, ∀ (h : hH) (s : MS) (x1 : Int32) (x2 : Int32) (x3 : Int32) (x4 : Int32) (x5 : Int32) (x6 : Int32) (q : (Int32 × MS)), RepM ad m h s → N_Mo_answer_24 F z s x1 x2 x3 x4 x5 x6 = some q → ∃ h2, M_Mo_answer_24 F z h m x1 x2 x3 x4 x5 x6 = some (q.1, h2) ∧ RepM ad m h2 q.2 := by
  intro z
  induction z with
  | zero => intro h s x1 x2 x3 x4 x5 x6 q R hN; exact absurd (show (none : Option _) = some q from hN) (fun t => by cases t)
  | succ z ih => exact bn_Mo_answer_24 ih
set_option maxHeartbeats 1000000 in
set_option maxRecDepth 100000 in
theorem n_Mo_answer_19 {ad : Nat → Nat} {m F : Nat} : ∀ (h : hH) (s : MS) (x1 : Int32) (x2 : Int32) (x3 : Int32) (x4 : Int32) (s0 : Int32) (q : (Int32 × MS)), RepM ad m h s → N_Mo_answer_19 F s x1 x2 x3 x4 s0 = some q → ∃ h2, M_Mo_answer_19 F h m x1 x2 x3 x4 s0 = some (q.1, h2) ∧ RepM ad m h2 q.2 := by
  intro h s x1 x2 x3 x4 s0 q R hN
  unfold N_Mo_answer_19 at hN
  unfold M_Mo_answer_19
  exact n_Mo_answer_24 F _ _ _ _ _ _ _ _ _ R hN
set_option maxHeartbeats 1000000 in
set_option maxRecDepth 100000 in
theorem n_Mo_answer {ad : Nat → Nat} {m F : Nat} {h : hH} {s : MS} {x1 : Int32} {x2 : Int32} {q : (Int32 × MS)} (R : RepM ad m h s) (hN : N_Mo_answer F s x1 x2 = some q) : ∃ h2, M_Mo_answer F h m x1 x2 = some (q.1, h2) ∧ RepM ad m h2 q.2 := by
  unfold N_Mo_answer at hN
  unfold M_Mo_answer
  refine ex_if (fun c1 => ?_) (fun c1 => ?_)
  · have hN := hif_t hN c1
    refine ex_b (rGetA R (k := 13) rfl) ?_
    obtain ⟨c2, hN⟩ := hnz hN
    refine ex_b (rLdI R (k := 13) rfl c2) ?_
    exact n_Mo_answer_19 _ _ _ _ _ _ _ _ R hN
  · have hN := hif_f hN c1
    exact n_Mo_answer_19 _ _ _ _ _ _ _ _ R hN
set_option maxHeartbeats 1000000 in
set_option maxRecDepth 100000 in
theorem n_Mo_run {ad : Nat → Nat} {m F : Nat} {h : hH} {s : MS} {x1 : Int32} {q : (Int32 × MS)} (R : RepM ad m h s) (hN : N_Mo_run F s x1 = some q) : ∃ h2, M_Mo_run F h m x1 = some (q.1, h2) ∧ RepM ad m h2 q.2 := by
  unfold N_Mo_run at hN
  unfold M_Mo_run
  obtain ⟨y1, ey1, hN⟩ := hb_some hN
  obtain ⟨h2, eh2, R⟩ := rPut R (k := 0) (v := 0) rfl
  rw [Option.some.inj ey1] at R
  refine ex_b eh2 ?_
  obtain ⟨q3, eq3, hN⟩ := hb_some hN
  refine ex_b (rIs R) ?_
  obtain ⟨h4, eh4, R⟩ := n_Mo_editionOf R eq3
  refine ex_b eh4 ?_
  obtain ⟨y5, ey5, hN⟩ := hb_some hN
  obtain ⟨h6, eh6, R⟩ := rPut R (k := 29) (v := q3.1) rfl
  rw [Option.some.inj ey5] at R
  refine ex_b eh6 ?_
  refine ex_b (rGetI R (k := 29) rfl) ?_
  obtain ⟨q7, eq7, hN⟩ := hb_some hN
  refine ex_b (rIs R) ?_
  obtain ⟨h8, eh8, R⟩ := n_Mo_answer R eq7
  refine ex_b eh8 ?_
  obtain rfl := Option.some.inj hN
  exact ⟨_, rfl, R⟩
set_option maxHeartbeats 1000000 in
set_option maxRecDepth 100000 in
theorem n_Mo_walk {ad : Nat → Nat} {m F : Nat} {h : hH} {s : MS} {x1 : Int32} {q : (Int32 × MS)} (R : RepM ad m h s) (hN : N_Mo_walk F s x1 = some q) : ∃ h2, M_Mo_walk F h m x1 = some (q.1, h2) ∧ RepM ad m h2 q.2 := by
  unfold N_Mo_walk at hN
  unfold M_Mo_walk
  obtain ⟨y1, ey1, hN⟩ := hb_some hN
  obtain ⟨h2, eh2, R⟩ := rPut R (k := 0) (v := 0) rfl
  rw [Option.some.inj ey1] at R
  refine ex_b eh2 ?_
  obtain ⟨q3, eq3, hN⟩ := hb_some hN
  refine ex_b (rIs R) ?_
  obtain ⟨h4, eh4, R⟩ := n_Mo_editionOf R eq3
  refine ex_b eh4 ?_
  obtain ⟨q5, eq5, hN⟩ := hb_some hN
  refine ex_b (rIs R) ?_
  obtain ⟨h6, eh6, R⟩ := n_Mo_answer R eq5
  refine ex_b eh6 ?_
  obtain rfl := Option.some.inj hN
  exact ⟨_, rfl, R⟩
set_option maxHeartbeats 1000000 in
set_option maxRecDepth 100000 in
theorem n_Mo_ranRules {ad : Nat → Nat} {m F : Nat} {h : hH} {s : MS} {q : (Int32 × MS)} (R : RepM ad m h s) (hN : N_Mo_ranRules F s = some q) : ∃ h2, M_Mo_ranRules F h m = some (q.1, h2) ∧ RepM ad m h2 q.2 := by
  unfold N_Mo_ranRules at hN
  unfold M_Mo_ranRules
  refine ex_b (rGetI R (k := 29) rfl) ?_
  refine ex_if (fun c1 => ?_) (fun c1 => ?_)
  · have hN := hif_t hN c1
    refine ex_b (rGetA R (k := 13) rfl) ?_
    refine ex_b (rGetI R (k := 29) rfl) ?_
    obtain ⟨c2, hN⟩ := hnz hN
    refine ex_b (rLdI R (k := 13) rfl c2) ?_
    obtain rfl := Option.some.inj hN
    exact ⟨_, rfl, R⟩
  · have hN := hif_f hN c1
    obtain rfl := Option.some.inj hN
    exact ⟨_, rfl, R⟩
set_option maxHeartbeats 1000000 in
set_option maxRecDepth 100000 in
theorem n_Mo_withState_40 {ad : Nat → Nat} {m F : Nat} {m5 : hH → Nat → Int32 → Int32 → Int32 → Int32 → Option (Int32 × hH)} {r5 : MS → Int32 → Int32 → Int32 → Int32 → Option (Int32 × MS)} (P5 : ∀ (h : hH) (s : MS) (x1 : Int32) (x2 : Int32) (x3 : Int32) (x4 : Int32) (q : (Int32 × MS)), RepM ad m h s → r5 s x1 x2 x3 x4 = some q → ∃ h2, m5 h m x1 x2 x3 x4 = some (q.1, h2) ∧ RepM ad m h2 q.2) : ∀ (h : hH) (s : MS) (x1 : Int32) (x2 : Int32) (x3 : Int32) (x4 : Int32) (q : (Int32 × MS)), RepM ad m h s → N_Mo_withState_40 F r5 s x1 x2 x3 x4 = some q → ∃ h2, M_Mo_withState_40 F m5 h m x1 x2 x3 x4 = some (q.1, h2) ∧ RepM ad m h2 q.2 := by
  intro h s x1 x2 x3 x4 q R hN
  unfold N_Mo_withState_40 at hN
  unfold M_Mo_withState_40
  exact P5 _ _ _ _ _ _ _ R hN
set_option maxHeartbeats 1000000 in
set_option maxRecDepth 100000 in
theorem bn_Mo_withState_5 {ad : Nat → Nat} {m F : Nat} {m5 : hH → Nat → Int32 → Int32 → Int32 → Int32 → Option (Int32 × hH)} {r5 : MS → Int32 → Int32 → Int32 → Int32 → Option (Int32 × MS)} (P5 : ∀ (h : hH) (s : MS) (x1 : Int32) (x2 : Int32) (x3 : Int32) (x4 : Int32) (q : (Int32 × MS)), RepM ad m h s → r5 s x1 x2 x3 x4 = some q → ∃ h2, m5 h m x1 x2 x3 x4 = some (q.1, h2) ∧ RepM ad m h2 q.2) : ∀ (h : hH) (s : MS) (x1 : Int32) (x2 : Int32) (x3 : Int32) (x4 : Int32) (q : (Int32 × MS)), RepM ad m h s → BN_Mo_withState_5 F r5 s x1 x2 x3 x4 = some q → ∃ h2, B_Mo_withState_5 F m5 h m x1 x2 x3 x4 = some (q.1, h2) ∧ RepM ad m h2 q.2 := by
  intro h s x1 x2 x3 x4 q R hN
  unfold BN_Mo_withState_5 at hN
  unfold B_Mo_withState_5
  obtain ⟨q1, eq1, hN⟩ := hb_some hN
  refine ex_b (rIs R) ?_
  obtain ⟨h2, eh2, R⟩ := n_Mo_ranRules R eq1
  refine ex_b eh2 ?_
  refine ex_if (fun c3 => ?_) (fun c3 => ?_)
  · have hN := hif_t hN c3
    obtain rfl := Option.some.inj hN
    exact ⟨_, rfl, R⟩
  · have hN := hif_f hN c3
    refine ex_if (fun c4 => ?_) (fun c4 => ?_)
    · have hN := hif_t hN c4
      obtain rfl := Option.some.inj hN
      exact ⟨_, rfl, R⟩
    · have hN := hif_f hN c4
      refine ex_b (rGetA R (k := 30) rfl) ?_
      obtain ⟨c5, hN⟩ := hnz hN
      refine ex_b (rLdI R (k := 30) rfl c5) ?_
      refine ex_if (fun c6 => ?_) (fun c6 => ?_)
      · have hN := hif_t hN c6
        refine ex_if (fun c7 => ?_) (fun c7 => ?_)
        · have hN := hif_t hN c7
          obtain rfl := Option.some.inj hN
          exact ⟨_, rfl, R⟩
        · have hN := hif_f hN c7
          exact n_Mo_withState_40 P5 _ _ _ _ _ _ _ R hN
      · have hN := hif_f hN c6
        exact n_Mo_withState_40 P5 _ _ _ _ _ _ _ R hN
theorem n_Mo_withState_5 {ad : Nat → Nat} {m F : Nat} : ∀ z : Nat, ∀ (h : hH) (s : MS) (x1 : Int32) (x2 : Int32) (x3 : Int32) (x4 : Int32) (q : (Int32 × MS)), RepM ad m h s → N_Mo_withState_5 F z s x1 x2 x3 x4 = some q → ∃ h2, M_Mo_withState_5 F z h m x1 x2 x3 x4 = some (q.1, h2) ∧ RepM ad m h2 q.2 := by
  intro z
  induction z with
  | zero => intro h s x1 x2 x3 x4 q R hN; exact absurd (show (none : Option _) = some q from hN) (fun t => by cases t)
  | succ z ih => exact bn_Mo_withState_5 ih
set_option maxHeartbeats 1000000 in
set_option maxRecDepth 100000 in
theorem n_Mo_withState {ad : Nat → Nat} {m F : Nat} {h : hH} {s : MS} {x1 : Int32} {x2 : Int32} {q : (Int32 × MS)} (R : RepM ad m h s) (hN : N_Mo_withState F s x1 x2 = some q) : ∃ h2, M_Mo_withState F h m x1 x2 = some (q.1, h2) ∧ RepM ad m h2 q.2 := by
  unfold N_Mo_withState at hN
  unfold M_Mo_withState
  exact n_Mo_withState_5 F _ _ _ _ _ _ _ R hN
set_option maxHeartbeats 1000000 in
set_option maxRecDepth 100000 in
theorem n_Mo_broken {ad : Nat → Nat} {m F : Nat} {h : hH} {s : MS} {x1 : Int32} {x2 : Int32} {q : (Int32 × MS)} (R : RepM ad m h s) (hN : N_Mo_broken F s x1 x2 = some q) : ∃ h2, M_Mo_broken F h m x1 x2 = some (q.1, h2) ∧ RepM ad m h2 q.2 := by
  unfold N_Mo_broken at hN
  unfold M_Mo_broken
  obtain ⟨y1, ey1, hN⟩ := hb_some hN
  obtain ⟨h2, eh2, R⟩ := rPut R (k := 0) (v := 0) rfl
  rw [Option.some.inj ey1] at R
  refine ex_b eh2 ?_
  obtain ⟨q3, eq3, hN⟩ := hb_some hN
  refine ex_b (rIs R) ?_
  obtain ⟨h4, eh4, R⟩ := n_Mo_withState R eq3
  refine ex_b eh4 ?_
  refine ex_if (fun c5 => ?_) (fun c5 => ?_)
  · have hN := hif_t hN c5
    obtain rfl := Option.some.inj hN
    exact ⟨_, rfl, R⟩
  · have hN := hif_f hN c5
    refine ex_if (fun c6 => ?_) (fun c6 => ?_)
    · have hN := hif_t hN c6
      obtain rfl := Option.some.inj hN
      exact ⟨_, rfl, R⟩
    · have hN := hif_f hN c6
      refine ex_if (fun c7 => ?_) (fun c7 => ?_)
      · have hN := hif_t hN c7
        refine ex_if (fun c8 => ?_) (fun c8 => ?_)
        · have hN := hif_t hN c8
          obtain rfl := Option.some.inj hN
          exact ⟨_, rfl, R⟩
        · have hN := hif_f hN c8
          refine ex_b (rGetA R (k := 17) rfl) ?_
          refine ex_b (rGetI R (k := 29) rfl) ?_
          obtain ⟨c9, hN⟩ := hnz hN
          refine ex_b (rLdI R (k := 17) rfl c9) ?_
          obtain rfl := Option.some.inj hN
          exact ⟨_, rfl, R⟩
      · have hN := hif_f hN c7
        obtain rfl := Option.some.inj hN
        exact ⟨_, rfl, R⟩
set_option maxHeartbeats 1000000 in
set_option maxRecDepth 100000 in
theorem n_Mo_open {ad : Nat → Nat} {m F : Nat} {h : hH} {s : MS} {x1 : Int32} {x2 : Int32} {q : (Int32 × MS)} (R : RepM ad m h s) (hN : N_Mo_open F s x1 x2 = some q) : ∃ h2, M_Mo_open F h m x1 x2 = some (q.1, h2) ∧ RepM ad m h2 q.2 := by
  unfold N_Mo_open at hN
  unfold M_Mo_open
  obtain ⟨y1, ey1, hN⟩ := hb_some hN
  obtain ⟨h2, eh2, R⟩ := rPut R (k := 0) (v := 0) rfl
  rw [Option.some.inj ey1] at R
  refine ex_b eh2 ?_
  obtain ⟨q3, eq3, hN⟩ := hb_some hN
  refine ex_b (rIs R) ?_
  obtain ⟨h4, eh4, R⟩ := n_Mo_withState R eq3
  refine ex_b eh4 ?_
  refine ex_if (fun c5 => ?_) (fun c5 => ?_)
  · have hN := hif_t hN c5
    obtain rfl := Option.some.inj hN
    exact ⟨_, rfl, R⟩
  · have hN := hif_f hN c5
    refine ex_if (fun c6 => ?_) (fun c6 => ?_)
    · have hN := hif_t hN c6
      obtain rfl := Option.some.inj hN
      exact ⟨_, rfl, R⟩
    · have hN := hif_f hN c6
      refine ex_if (fun c7 => ?_) (fun c7 => ?_)
      · have hN := hif_t hN c7
        refine ex_if (fun c8 => ?_) (fun c8 => ?_)
        · have hN := hif_t hN c8
          obtain rfl := Option.some.inj hN
          exact ⟨_, rfl, R⟩
        · have hN := hif_f hN c8
          refine ex_if (fun c9 => ?_) (fun c9 => ?_)
          · have hN := hif_t hN c9
            refine ex_b (rGetA R (k := 31) rfl) ?_
            obtain ⟨c11, hN⟩ := hnz hN
            refine ex_b (rLdI R (k := 31) rfl c11) ?_
            obtain rfl := Option.some.inj hN
            exact ⟨_, rfl, R⟩
          · have hN := hif_f hN c9
            refine ex_b (rGetA R (k := 32) rfl) ?_
            obtain ⟨c10, hN⟩ := hnz hN
            refine ex_b (rLdI R (k := 32) rfl c10) ?_
            obtain rfl := Option.some.inj hN
            exact ⟨_, rfl, R⟩
      · have hN := hif_f hN c7
        obtain rfl := Option.some.inj hN
        exact ⟨_, rfl, R⟩
set_option maxHeartbeats 1000000 in
set_option maxRecDepth 100000 in
theorem n_Mo_explain {ad : Nat → Nat} {m F : Nat} {h : hH} {s : MS} {x1 : Int32} {q : (Int32 × MS)} (R : RepM ad m h s) (hN : N_Mo_explain F s x1 = some q) : ∃ h2, M_Mo_explain F h m x1 = some (q.1, h2) ∧ RepM ad m h2 q.2 := by
  unfold N_Mo_explain at hN
  unfold M_Mo_explain
  obtain ⟨y1, ey1, hN⟩ := hb_some hN
  obtain ⟨h2, eh2, R⟩ := rPut R (k := 0) (v := 0) rfl
  rw [Option.some.inj ey1] at R
  refine ex_b eh2 ?_
  refine ex_if (fun c3 => ?_) (fun c3 => ?_)
  · have hN := hif_t hN c3
    obtain rfl := Option.some.inj hN
    exact ⟨_, rfl, R⟩
  · have hN := hif_f hN c3
    obtain ⟨q4, eq4, hN⟩ := hb_some hN
    refine ex_b (rIs R) ?_
    obtain ⟨h5, eh5, R⟩ := n_Mo_ranRules R eq4
    refine ex_b eh5 ?_
    refine ex_if (fun c6 => ?_) (fun c6 => ?_)
    · have hN := hif_t hN c6
      refine ex_b (rGetA R (k := 30) rfl) ?_
      obtain ⟨c7, hN⟩ := hnz hN
      refine ex_b (rLdI R (k := 30) rfl c7) ?_
      obtain rfl := Option.some.inj hN
      exact ⟨_, rfl, R⟩
    · have hN := hif_f hN c6
      obtain rfl := Option.some.inj hN
      exact ⟨_, rfl, R⟩
