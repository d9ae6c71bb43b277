def N_Mo_now (F : Nat) (s : MS) : Option (Int32 × MS) :=
  if (s.1 22) < 0 ∨ 6 ≤ (s.1 22).toNatClampNeg then none else
  if (s.2.1 9 (s.1 22).toNatClampNeg) ≤ (s.1 23) then (
    some ((-20), s)
  ) else (
    if ((400 * (s.1 22)) + (s.1 23)) < 0 ∨ 2400 ≤ ((400 * (s.1 22)) + (s.1 23)).toNatClampNeg then none else
    some (s.2.1 8 ((400 * (s.1 22)) + (s.1 23)).toNatClampNeg, s)
  )
def N_Mo_want_19 (F : Nat) (s : MS) : Option (Int32 × MS) :=
  if 0 ≤ (s.1 24) then (
    some (0, s)
  ) else (
    some (1, s)
  )
def N_Mo_want (F : Nat) (s : MS) (x1 : Int32) : Option (Int32 × MS) :=
  if x1 = 0 then (
    if 0 ≤ (s.1 24) then (
      N_Mo_want_19 F s
    ) else (
      (some (sPut s 24 (s.1 23))).bind fun y3 =>
      N_Mo_want_19 F y3
    )
  ) else (
    N_Mo_want_19 F s
  )
def N_Mo_needs_14 (F : Nat) (s : MS) (s1 : Int32) : Option (Int32 × MS) :=
  (N_Mo_want F s s1).bind fun q1 =>
  if q1.1 = 0 then (
    (some (sPut q1.2 23 ((q1.2.1 23) + 0))).bind fun y4 =>
    (hZ q1.1).bind fun u6 =>
    some (q1.1, y4)
  ) else (
    (some (sPut q1.2 23 ((q1.2.1 23) + 1))).bind fun y7 =>
    (hZ q1.1).bind fun u9 =>
    some (q1.1, y7)
  )
def N_Mo_needs (F : Nat) (s : MS) (x1 : Int32) : Option (Int32 × MS) :=
  (N_Mo_now F s).bind fun q1 =>
  if q1.1 = x1 then (
    N_Mo_needs_14 F q1.2 1
  ) else (
    N_Mo_needs_14 F q1.2 0
  )
def N_Mo_put (F : Nat) (s : MS) (x1 : Int32) (x2 : Int32) : Option MS :=
  if ((400 * (s.1 22)) + (s.1 21)) < 0 ∨ 2400 ≤ ((400 * (s.1 22)) + (s.1 21)).toNatClampNeg then none else
  (some (sStI s 19 ((400 * (s.1 22)) + (s.1 21)).toNatClampNeg x1)).bind fun y2 =>
  if ((400 * (y2.1 22)) + (y2.1 21)) < 0 ∨ 2400 ≤ ((400 * (y2.1 22)) + (y2.1 21)).toNatClampNeg then none else
  (some (sStI y2 20 ((400 * (y2.1 22)) + (y2.1 21)).toNatClampNeg x2)).bind fun y5 =>
  (some (sPut y5 21 ((y5.1 21) + 1))).bind fun y7 =>
  some y7
def N_Mo_tableP_110 (F : Nat) (s : MS) (x1 : Int32) (x2 : Int32) (s1 : Int32) : Option MS :=
  (N_Mo_want F s s1).bind fun q1 =>
  if q1.1 = 0 then (
    some q1.2
  ) else (
    (N_Mo_needs F q1.2 (-19)).bind fun q4 =>
    if q4.1 = 0 then (
      some q4.2
    ) else (
      if ((8 * (q4.2.1 22)) + x1) < 0 ∨ 48 ≤ ((8 * (q4.2.1 22)) + x1).toNatClampNeg then none else
      (some (sStI q4.2 11 ((8 * (q4.2.1 22)) + x1).toNatClampNeg x2)).bind fun y8 =>
      if (y8.1 22) < 0 ∨ 6 ≤ (y8.1 22).toNatClampNeg then none else
      if (y8.1 22) < 0 ∨ 6 ≤ (y8.1 22).toNatClampNeg then none else
      (some (sStI y8 10 (y8.1 22).toNatClampNeg ((y8.2.1 10 (y8.1 22).toNatClampNeg) + 1))).bind fun y12 =>
      some y12
    )
  )
def N_Mo_tableP_100 (F : Nat) (s : MS) (x1 : Int32) (x2 : Int32) : Option MS :=
  if x2 ≤ 0 then (
    N_Mo_tableP_110 F s x1 x2 0
  ) else (
    N_Mo_tableP_110 F s x1 x2 1
  )
def BN_Mo_tableP_41 (F : Nat) (r41 : MS → Int32 → Int32 → Option MS) (s : MS) (x1 : Int32) (x2 : Int32) : Option MS :=
  if 0 ≤ (s.1 24) then (
    N_Mo_tableP_100 F s x1 x2
  ) else (
    (N_Mo_now F s).bind fun q2 =>
    if q2.1 < 0 then (
      N_Mo_tableP_100 F q2.2 x1 x2
    ) else (
      if 10 ≤ x2 then (
        N_Mo_tableP_100 F q2.2 x1 x2
      ) else (
        (N_Mo_now F q2.2).bind fun q6 =>
        if (((80 * (q2.2.1 22)) + (10 * x1)) + x2) < 0 ∨ 480 ≤ (((80 * (q2.2.1 22)) + (10 * x1)) + x2).toNatClampNeg then none else
        (some (sStI q6.2 12 (((80 * (q2.2.1 22)) + (10 * x1)) + x2).toNatClampNeg q6.1)).bind fun y9 =>
        (some (sPut y9 23 ((y9.1 23) + 1))).bind fun y11 =>
        r41 y11 x1 (x2 + 1)
      )
    )
  )
def N_Mo_tableP_41 (F : Nat) : Nat → MS → Int32 → Int32 → Option MS
  | 0 => fun _ _ _ => none
  | z + 1 => BN_Mo_tableP_41 F (N_Mo_tableP_41 F z)
def N_Mo_tableP_22 (F : Nat) (s : MS) (x1 : Int32) (s1 : Int32) : Option MS :=
  (N_Mo_want F s s1).bind fun q1 =>
  if q1.1 = 0 then (
    some q1.2
  ) else (
    (some (sPut q1.2 23 ((q1.2.1 23) + 1))).bind fun y4 =>
    N_Mo_tableP_41 F F y4 x1 0
  )
def N_Mo_tableP (F : Nat) (s : MS) : Option MS :=
  if (s.1 22) < 0 ∨ 6 ≤ (s.1 22).toNatClampNeg then none else
  if 8 ≤ (s.2.1 10 (s.1 22).toNatClampNeg) then (
    N_Mo_tableP_22 F s (s.2.1 10 (s.1 22).toNatClampNeg) 0
  ) else (
    N_Mo_tableP_22 F s (s.2.1 10 (s.1 22).toNatClampNeg) 1
  )
def N_Mo_isOperator (F : Nat) (s : MS) (x0 : Int32) : Option (Int32 × MS) :=
  if (-10) < x0 then (
    some (0, s)
  ) else (
    if x0 ≤ (-15) then (
      some (0, s)
    ) else (
      some (1, s)
    )
  )
def N_Mo_isProduct (F : Nat) (s : MS) (x0 : Int32) : Option (Int32 × MS) :=
  if (-11) ≤ x0 then (
    some (0, s)
  ) else (
    some (1, s)
  )
def BN_Mo_sum_484 (F : Nat) (r484 : MS → Int32 → Option MS) (s : MS) (x1 : Int32) : Option MS :=
  if x1 ≤ 0 then (
    some s
  ) else (
    if (x1 + (-1)) < 0 ∨ 500 ≤ (x1 + (-1)).toNatClampNeg then none else
    (N_Mo_put F s (s.2.1 25 (x1 + (-1)).toNatClampNeg) 0).bind fun q3 =>
    r484 q3 (x1 + (-1))
  )
def N_Mo_sum_484 (F : Nat) : Nat → MS → Int32 → Option MS
  | 0 => fun _ _ => none
  | z + 1 => BN_Mo_sum_484 F (N_Mo_sum_484 F z)
def N_Mo_sum_478 (F : Nat) (s : MS) (x1 : Int32) (s1 : Int32) : Option MS :=
  (N_Mo_want F s s1).bind fun q1 =>
  if q1.1 = 0 then (
    some q1.2
  ) else (
    N_Mo_sum_484 F F q1.2 x1
  )
def N_Mo_sum_468 (F : Nat) (s : MS) (x1 : Int32) (x3 : Int32) : Option MS :=
  if x3 = 0 then (
    N_Mo_sum_478 F s x1 1
  ) else (
    N_Mo_sum_478 F s x1 0
  )
def N_Mo_sum_465 (F : Nat) (r9 : MS → Int32 → Int32 → Int32 → Int32 → Option MS) (s : MS) (x1 : Int32) (x2 : Int32) (x3 : Int32) (x4 : Int32) : Option MS :=
  r9 s x1 x2 x3 x4
def N_Mo_sum_442 (F : Nat) (r9 : MS → Int32 → Int32 → Int32 → Int32 → Option MS) (s : MS) (x1 : Int32) (x2 : Int32) (x3 : Int32) (x4 : Int32) : Option MS :=
  (N_Mo_now F s).bind fun q1 =>
  if x1 < 0 ∨ 500 ≤ x1.toNatClampNeg then none else
  (some (sStI q1.2 25 x1.toNatClampNeg q1.1)).bind fun y4 =>
  (some (sPut y4 23 ((y4.1 23) + 1))).bind fun y6 =>
  N_Mo_sum_465 F r9 y6 (x1 + 1) x2 x3 x4
def N_Mo_sum_425 (F : Nat) (r9 : MS → Int32 → Int32 → Int32 → Int32 → Option MS) (r383 : MS → Int32 → Int32 → Int32 → Int32 → Option MS) (s : MS) (x1 : Int32) (x2 : Int32) (x3 : Int32) (x4 : Int32) : Option MS :=
  if (x1 + (-1)) < 0 ∨ 500 ≤ (x1 + (-1)).toNatClampNeg then none else
  (N_Mo_put F s (s.2.1 25 (x1 + (-1)).toNatClampNeg) 0).bind fun q2 =>
  r383 q2 (x1 + (-1)) x2 x3 x4
def BN_Mo_sum_383 (F : Nat) (r9 : MS → Int32 → Int32 → Int32 → Int32 → Option MS) (r383 : MS → Int32 → Int32 → Int32 → Int32 → Option MS) (s : MS) (x1 : Int32) (x2 : Int32) (x3 : Int32) (x4 : Int32) : Option MS :=
  if x1 ≤ 0 then (
    N_Mo_sum_442 F r9 s x1 x2 x3 x4
  ) else (
    if (x1 - 1) < 0 ∨ 500 ≤ (x1 - 1).toNatClampNeg then none else
    (N_Mo_isOperator F s (s.2.1 25 (x1 - 1).toNatClampNeg)).bind fun q3 =>
    if q3.1 = 0 then (
      N_Mo_sum_442 F r9 q3.2 x1 x2 x3 x4
    ) else (
      if (x1 - 1) < 0 ∨ 500 ≤ (x1 - 1).toNatClampNeg then none else
      (N_Mo_isProduct F q3.2 (q3.2.2.1 25 (x1 - 1).toNatClampNeg)).bind fun q7 =>
      if q7.1 = 0 then (
        (N_Mo_now F q7.2).bind fun q10 =>
        (N_Mo_isProduct F q10.2 q10.1).bind fun q12 =>
        if q12.1 = 0 then (
          N_Mo_sum_425 F r9 r383 q12.2 x1 x2 x3 x4
        ) else (
          N_Mo_sum_442 F r9 q12.2 x1 x2 x3 x4
        )
      ) else (
        N_Mo_sum_425 F r9 r383 q7.2 x1 x2 x3 x4
      )
    )
  )
def N_Mo_sum_383 (F : Nat) (r9 : MS → Int32 → Int32 → Int32 → Int32 → Option MS) : Nat → MS → Int32 → Int32 → Int32 → Int32 → Option MS
  | 0 => fun _ _ _ _ _ => none
  | z + 1 => BN_Mo_sum_383 F r9 (N_Mo_sum_383 F r9 z)
def BN_Mo_sum_317 (F : Nat) (r9 : MS → Int32 → Int32 → Int32 → Int32 → Option MS) (r249 : MS → Int32 → Int32 → Int32 → Int32 → Option MS) (r317 : MS → Int32 → Int32 → Int32 → Int32 → Option MS) (s : MS) (x1 : Int32) (x2 : Int32) (x3 : Int32) (x6 : Int32) : Option MS :=
  if (x1 - 1) < 0 ∨ 500 ≤ (x1 - 1).toNatClampNeg then none else
  if (s.2.1 25 (x1 - 1).toNatClampNeg) = (-8) then (
    (some (sPut s 23 ((s.1 23) + 1))).bind fun y3 =>
    r249 y3 (x1 + (-1)) (x2 + (-1)) (x3 + (-1)) x6
  ) else (
    if (x1 + (-1)) < 0 ∨ 500 ≤ (x1 + (-1)).toNatClampNeg then none else
    (N_Mo_put F s (s.2.1 25 (x1 + (-1)).toNatClampNeg) 0).bind fun q6 =>
    r317 q6 (x1 + (-1)) x2 x3 x6
  )
def N_Mo_sum_317 (F : Nat) (r9 : MS → Int32 → Int32 → Int32 → Int32 → Option MS) (r249 : MS → Int32 → Int32 → Int32 → Int32 → Option MS) : Nat → MS → Int32 → Int32 → Int32 → Int32 → Option MS
  | 0 => fun _ _ _ _ _ => none
  | z + 1 => BN_Mo_sum_317 F r9 r249 (N_Mo_sum_317 F r9 r249 z)
def N_Mo_sum_310 (F : Nat) (r9 : MS → Int32 → Int32 → Int32 → Int32 → Option MS) (r249 : MS → Int32 → Int32 → Int32 → Int32 → Option MS) (s : MS) (x1 : Int32) (x2 : Int32) (x3 : Int32) (s0 : Int32) : Option MS :=
  if s0 = 0 then (
    r249 s x1 x2 x3 s0
  ) else (
    N_Mo_sum_317 F r9 r249 F s x1 x2 x3 s0
  )
def N_Mo_sum_309 (F : Nat) (r9 : MS → Int32 → Int32 → Int32 → Int32 → Option MS) (r249 : MS → Int32 → Int32 → Int32 → Int32 → Option MS) (s : MS) (x1 : Int32) (x2 : Int32) (x3 : Int32) : Option MS :=
  N_Mo_sum_310 F r9 r249 s x1 x2 x3 0
def N_Mo_sum_292 (F : Nat) (r9 : MS → Int32 → Int32 → Int32 → Int32 → Option MS) (r249 : MS → Int32 → Int32 → Int32 → Int32 → Option MS) (s : MS) (x1 : Int32) (x2 : Int32) (x3 : Int32) : Option MS :=
  if x3 ≤ 0 then (
    N_Mo_sum_309 F r9 r249 s x1 x2 x3
  ) else (
    (N_Mo_now F s).bind fun q2 =>
    if q2.1 = (-9) then (
      N_Mo_sum_310 F r9 r249 q2.2 x1 x2 x3 1
    ) else (
      N_Mo_sum_309 F r9 r249 q2.2 x1 x2 x3
    )
  )
def BN_Mo_sum_254 (F : Nat) (r9 : MS → Int32 → Int32 → Int32 → Int32 → Option MS) (r249 : MS → Int32 → Int32 → Int32 → Int32 → Option MS) (r254 : MS → Int32 → Int32 → Int32 → Option MS) (s : MS) (x1 : Int32) (x2 : Int32) (x3 : Int32) : Option MS :=
  if x1 ≤ 0 then (
    N_Mo_sum_292 F r9 r249 s x1 x2 x3
  ) else (
    if (x1 - 1) < 0 ∨ 500 ≤ (x1 - 1).toNatClampNeg then none else
    if (s.2.1 25 (x1 - 1).toNatClampNeg) = (-7) then (
      if (x1 + (-1)) < 0 ∨ 500 ≤ (x1 + (-1)).toNatClampNeg then none else
      (N_Mo_put F s (-7) (s.2.1 26 (x1 + (-1)).toNatClampNeg)).bind fun q5 =>
      r254 q5 (x1 + (-1)) (x2 + (-1)) x3
    ) else (
      N_Mo_sum_292 F r9 r249 s x1 x2 x3
    )
  )
def N_Mo_sum_254 (F : Nat) (r9 : MS → Int32 → Int32 → Int32 → Int32 → Option MS) (r249 : MS → Int32 → Int32 → Int32 → Int32 → Option MS) : Nat → MS → Int32 → Int32 → Int32 → Option MS
  | 0 => fun _ _ _ _ => none
  | z + 1 => BN_Mo_sum_254 F r9 r249 (N_Mo_sum_254 F r9 r249 z)
def BN_Mo_sum_249 (F : Nat) (r9 : MS → Int32 → Int32 → Int32 → Int32 → Option MS) (r249 : MS → Int32 → Int32 → Int32 → Int32 → Option MS) (s : MS) (x1 : Int32) (x2 : Int32) (x3 : Int32) (x6 : Int32) : Option MS :=
  if x6 = 0 then (
    (N_Mo_now F s).bind fun q2 =>
    (N_Mo_isOperator F q2.2 q2.1).bind fun q4 =>
    if q4.1 = 0 then (
      N_Mo_sum_465 F r9 q4.2 x1 x2 x3 q4.1
    ) else (
      N_Mo_sum_383 F r9 F q4.2 x1 x2 x3 q4.1
    )
  ) else (
    N_Mo_sum_254 F r9 r249 F s x1 x2 x3
  )
def N_Mo_sum_249 (F : Nat) (r9 : MS → Int32 → Int32 → Int32 → Int32 → Option MS) : Nat → MS → Int32 → Int32 → Int32 → Int32 → Option MS
  | 0 => fun _ _ _ _ _ => none
  | z + 1 => BN_Mo_sum_249 F r9 (N_Mo_sum_249 F r9 z)
def N_Mo_sum_246 (F : Nat) (r9 : MS → Int32 → Int32 → Int32 → Int32 → Option MS) (s : MS) (x1 : Int32) (x2 : Int32) (x3 : Int32) : Option MS :=
  N_Mo_sum_249 F r9 F s x1 x2 x3 1
def N_Mo_sum_164 (F : Nat) (r9 : MS → Int32 → Int32 → Int32 → Int32 → Option MS) (s : MS) (x1 : Int32) (x2 : Int32) (x3 : Int32) (x4 : Int32) (x5 : Int32) (s1 : Int32) : Option MS :=
  (N_Mo_want F s s1).bind fun q1 =>
  if q1.1 = 0 then (
    some q1.2
  ) else (
    if x5 = (-7) then (
      if x1 < 0 ∨ 500 ≤ x1.toNatClampNeg then none else
      (some (sStI q1.2 25 x1.toNatClampNeg (-7))).bind fun y12 =>
      (N_Mo_now F y12).bind fun q14 =>
      if x1 < 0 ∨ 500 ≤ x1.toNatClampNeg then none else
      (some (sStI q14.2 26 x1.toNatClampNeg q14.1)).bind fun y17 =>
      (some (sPut y17 23 ((y17.1 23) + 1))).bind fun y19 =>
      r9 y19 (x1 + 1) (x2 + 1) x3 x4
    ) else (
      (N_Mo_now F q1.2).bind fun q5 =>
      (N_Mo_put F q5.2 (-6) q5.1).bind fun q7 =>
      (some (sPut q7 23 ((q7.1 23) + 1))).bind fun y9 =>
      N_Mo_sum_246 F r9 y9 x1 x2 x3
    )
  )
def N_Mo_sum_163 (F : Nat) (r9 : MS → Int32 → Int32 → Int32 → Int32 → Option MS) (s : MS) (x1 : Int32) (x2 : Int32) (x3 : Int32) (x4 : Int32) (x5 : Int32) : Option MS :=
  N_Mo_sum_164 F r9 s x1 x2 x3 x4 x5 0
def N_Mo_sum_156 (F : Nat) (r9 : MS → Int32 → Int32 → Int32 → Int32 → Option MS) (s : MS) (x1 : Int32) (x2 : Int32) (x3 : Int32) (x4 : Int32) (x5 : Int32) (s1 : Int32) (s2 : Int32) : Option MS :=
  if s2 ≤ s1 then (
    N_Mo_sum_163 F r9 s x1 x2 x3 x4 x5
  ) else (
    N_Mo_sum_164 F r9 s x1 x2 x3 x4 x5 1
  )
def N_Mo_sum_123 (F : Nat) (r9 : MS → Int32 → Int32 → Int32 → Int32 → Option MS) (s : MS) (x1 : Int32) (x2 : Int32) (x3 : Int32) (x4 : Int32) (x5 : Int32) : Option MS :=
  (N_Mo_now F s).bind fun q1 =>
  if q1.1 < 0 then (
    N_Mo_sum_163 F r9 q1.2 x1 x2 x3 x4 x5
  ) else (
    (N_Mo_now F q1.2).bind fun q4 =>
    if x5 = (-7) then (
      if (q4.2.1 22) < 0 ∨ 6 ≤ (q4.2.1 22).toNatClampNeg then none else
      N_Mo_sum_156 F r9 q4.2 x1 x2 x3 x4 x5 q4.1 (q4.2.2.1 10 (q4.2.1 22).toNatClampNeg)
    ) else (
      N_Mo_sum_156 F r9 q4.2 x1 x2 x3 x4 x5 q4.1 20
    )
  )
def N_Mo_sum_65 (F : Nat) (r9 : MS → Int32 → Int32 → Int32 → Int32 → Option MS) (s : MS) (x1 : Int32) (x2 : Int32) (x3 : Int32) (x4 : Int32) (x5 : Int32) (s1 : Int32) : Option MS :=
  (N_Mo_want F s s1).bind fun q1 =>
  if q1.1 = 0 then (
    some q1.2
  ) else (
    (some (sPut q1.2 23 ((q1.2.1 23) + 1))).bind fun y4 =>
    if x5 = (-8) then (
      if x1 < 0 ∨ 500 ≤ x1.toNatClampNeg then none else
      (some (sStI y4 25 x1.toNatClampNeg (-8))).bind fun y12 =>
      r9 y12 (x1 + 1) (x2 + 1) (x3 + 1) x4
    ) else (
      if x5 = (-7) then (
        N_Mo_sum_123 F r9 y4 x1 x2 x3 x4 x5
      ) else (
        if x5 = (-6) then (
          N_Mo_sum_123 F r9 y4 x1 x2 x3 x4 x5
        ) else (
          (N_Mo_put F y4 (-21) x5).bind fun q9 =>
          N_Mo_sum_246 F r9 q9 x1 x2 x3
        )
      )
    )
  )
def N_Mo_sum_64 (F : Nat) (r9 : MS → Int32 → Int32 → Int32 → Int32 → Option MS) (s : MS) (x1 : Int32) (x2 : Int32) (x3 : Int32) (x4 : Int32) (x5 : Int32) : Option MS :=
  N_Mo_sum_65 F r9 s x1 x2 x3 x4 x5 0
def N_Mo_sum_60 (F : Nat) (r9 : MS → Int32 → Int32 → Int32 → Int32 → Option MS) (s : MS) (x1 : Int32) (x2 : Int32) (x3 : Int32) (x4 : Int32) (x5 : Int32) : Option MS :=
  N_Mo_sum_65 F r9 s x1 x2 x3 x4 x5 1
def BN_Mo_sum_9 (F : Nat) (r9 : MS → Int32 → Int32 → Int32 → Int32 → Option MS) (s : MS) (x1 : Int32) (x2 : Int32) (x3 : Int32) (x4 : Int32) : Option MS :=
  if x4 = 0 then (
    N_Mo_sum_468 F s x1 x3
  ) else (
    if 0 ≤ (s.1 24) then (
      N_Mo_sum_468 F s x1 x3
    ) else (
      (N_Mo_now F s).bind fun q3 =>
      if 12 < x2 then (
        N_Mo_sum_64 F r9 q3.2 x1 x2 x3 x4 q3.1
      ) else (
        if 0 ≤ q3.1 then (
          N_Mo_sum_60 F r9 q3.2 x1 x2 x3 x4 q3.1
        ) else (
          if q3.1 = (-6) then (
            N_Mo_sum_60 F r9 q3.2 x1 x2 x3 x4 q3.1
          ) else (
            if q3.1 = (-7) then (
              N_Mo_sum_60 F r9 q3.2 x1 x2 x3 x4 q3.1
            ) else (
              if q3.1 = (-8) then (
                N_Mo_sum_60 F r9 q3.2 x1 x2 x3 x4 q3.1
              ) else (
                N_Mo_sum_64 F r9 q3.2 x1 x2 x3 x4 q3.1
              )
            )
          )
        )
      )
    )
  )
def N_Mo_sum_9 (F : Nat) : Nat → MS → Int32 → Int32 → Int32 → Int32 → Option MS
  | 0 => fun _ _ _ _ _ => none
  | z + 1 => BN_Mo_sum_9 F (N_Mo_sum_9 F z)
def N_Mo_sum (F : Nat) (s : MS) : Option MS :=
  N_Mo_sum_9 F F s 0 0 0 1
set_option maxHeartbeats 1000000 in
set_option maxRecDepth 100000 in
theorem n_Mo_now {ad : Nat → Nat} {m F : Nat} {h : hH} {s : MS} {q : (Int32 × MS)} (R : RepM ad m h s) (hN : N_Mo_now F s = some q) : ∃ h2, M_Mo_now F h m = some (q.1, h2) ∧ RepM ad m h2 q.2 := by
  unfold N_Mo_now at hN
  unfold M_Mo_now
  refine ex_b (rGetI R (k := 23) rfl) ?_
  refine ex_b (rGetA R (k := 9) rfl) ?_
  refine ex_b (rGetI R (k := 22) rfl) ?_
  obtain ⟨c1, hN⟩ := hnz hN
  refine ex_b (rLdI R (k := 9) rfl c1) ?_
  refine ex_if (fun c2 => ?_) (fun c2 => ?_)
  · have hN := hif_t hN c2
    obtain rfl := Option.some.inj hN
    exact ⟨_, rfl, R⟩
  · have hN := hif_f hN c2
    refine ex_b (rGetA R (k := 8) rfl) ?_
    refine ex_b (rGetI R (k := 22) rfl) ?_
    refine ex_b (rGetI R (k := 23) rfl) ?_
    obtain ⟨c3, hN⟩ := hnz hN
    refine ex_b (rLdI R (k := 8) rfl c3) ?_
    obtain rfl := Option.some.inj hN
    exact ⟨_, rfl, R⟩
set_option maxHeartbeats 1000000 in
set_option maxRecDepth 100000 in
theorem n_Mo_want_19 {ad : Nat → Nat} {m F : Nat} : ∀ (h : hH) (s : MS) (q : (Int32 × MS)), RepM ad m h s → N_Mo_want_19 F s = some q → ∃ h2, M_Mo_want_19 F h m = some (q.1, h2) ∧ RepM ad m h2 q.2 := by
  intro h s q R hN
  unfold N_Mo_want_19 at hN
  unfold M_Mo_want_19
  refine ex_b (rGetI R (k := 24) rfl) ?_
  refine ex_if (fun c1 => ?_) (fun c1 => ?_)
  · have hN := hif_t hN c1
    obtain rfl := Option.some.inj hN
    exact ⟨_, rfl, R⟩
  · have hN := hif_f hN c1
    obtain rfl := Option.some.inj hN
    exact ⟨_, rfl, R⟩
set_option maxHeartbeats 1000000 in
set_option maxRecDepth 100000 in
theorem n_Mo_want {ad : Nat → Nat} {m F : Nat} {h : hH} {s : MS} {x1 : Int32} {q : (Int32 × MS)} (R : RepM ad m h s) (hN : N_Mo_want F s x1 = some q) : ∃ h2, M_Mo_want F h m x1 = some (q.1, h2) ∧ RepM ad m h2 q.2 := by
  unfold N_Mo_want at hN
  unfold M_Mo_want
  refine ex_if (fun c1 => ?_) (fun c1 => ?_)
  · have hN := hif_t hN c1
    refine ex_b (rGetI R (k := 24) rfl) ?_
    refine ex_if (fun c2 => ?_) (fun c2 => ?_)
    · have hN := hif_t hN c2
      exact n_Mo_want_19 _ _ _ R hN
    · have hN := hif_f hN c2
      refine ex_b (rGetI R (k := 23) rfl) ?_
      obtain ⟨y3, ey3, hN⟩ := hb_some hN
      obtain ⟨h4, eh4, R⟩ := rPut R (k := 24) (v := s.1 23) rfl
      rw [Option.some.inj ey3] at R
      refine ex_b eh4 ?_
      exact n_Mo_want_19 _ _ _ R hN
  · have hN := hif_f hN c1
    exact n_Mo_want_19 _ _ _ R hN
set_option maxHeartbeats 1000000 in
set_option maxRecDepth 100000 in
theorem n_Mo_needs_14 {ad : Nat → Nat} {m F : Nat} : ∀ (h : hH) (s : MS) (s1 : Int32) (q : (Int32 × MS)), RepM ad m h s → N_Mo_needs_14 F s s1 = some q → ∃ h2, M_Mo_needs_14 F h m m s1 = some (q.1, h2) ∧ RepM ad m h2 q.2 := by
  intro h s s1 q R hN
  unfold N_Mo_needs_14 at hN
  unfold M_Mo_needs_14
  obtain ⟨q1, eq1, hN⟩ := hb_some hN
  refine ex_b (rIs R) ?_
  obtain ⟨h2, eh2, R⟩ := n_Mo_want R eq1
  refine ex_b eh2 ?_
  refine ex_b (rGetI R (k := 23) rfl) ?_
  refine ex_if (fun c3 => ?_) (fun c3 => ?_)
  · have hN := hif_t hN c3
    obtain ⟨y4, ey4, hN⟩ := hb_some hN
    obtain ⟨h5, eh5, R⟩ := rPut R (k := 23) (v := (q1.2.1 23) + 0) rfl
    rw [Option.some.inj ey4] at R
    refine ex_b eh5 ?_
    obtain ⟨u6, eu6, hN⟩ := hb_some hN
    refine ex_b eu6 ?_
    obtain rfl := Option.some.inj hN
    exact ⟨_, rfl, R⟩
  · have hN := hif_f hN c3
    obtain ⟨y7, ey7, hN⟩ := hb_some hN
    obtain ⟨h8, eh8, R⟩ := rPut R (k := 23) (v := (q1.2.1 23) + 1) rfl
    rw [Option.some.inj ey7] at R
    refine ex_b eh8 ?_
    obtain ⟨u9, eu9, hN⟩ := hb_some hN
    refine ex_b eu9 ?_
    obtain rfl := Option.some.inj hN
    exact ⟨_, rfl, R⟩
set_option maxHeartbeats 1000000 in
set_option maxRecDepth 100000 in
theorem n_Mo_needs {ad : Nat → Nat} {m F : Nat} {h : hH} {s : MS} {x1 : Int32} {q : (Int32 × MS)} (R : RepM ad m h s) (hN : N_Mo_needs F s x1 = some q) : ∃ h2, M_Mo_needs F h m x1 = some (q.1, h2) ∧ RepM ad m h2 q.2 := by
  unfold N_Mo_needs at hN
  unfold M_Mo_needs
  obtain ⟨q1, eq1, hN⟩ := hb_some hN
  refine ex_b (rIs R) ?_
  obtain ⟨h2, eh2, R⟩ := n_Mo_now R eq1
  refine ex_b eh2 ?_
  refine ex_if (fun c3 => ?_) (fun c3 => ?_)
  · have hN := hif_t hN c3
    exact n_Mo_needs_14 _ _ _ _ R hN
  · have hN := hif_f hN c3
    exact n_Mo_needs_14 _ _ _ _ R hN
set_option maxHeartbeats 1000000 in
set_option maxRecDepth 100000 in
theorem n_Mo_put {ad : Nat → Nat} {m F : Nat} {h : hH} {s : MS} {x1 : Int32} {x2 : Int32} {q : MS} (R : RepM ad m h s) (hN : N_Mo_put F s x1 x2 = some q) : ∃ h2, M_Mo_put F h m x1 x2 = some h2 ∧ RepM ad m h2 q := by
  unfold N_Mo_put at hN
  unfold M_Mo_put
  refine ev_b (rGetA R (k := 19) rfl) ?_
  refine ev_b (rGetI R (k := 22) rfl) ?_
  refine ev_b (rGetI R (k := 21) rfl) ?_
  obtain ⟨c1, hN⟩ := hnz hN
  obtain ⟨y2, ey2, hN⟩ := hb_some hN
  obtain ⟨h3, eh3, R⟩ := rStI R (k := 19) (x := x1) rfl c1
  rw [Option.some.inj ey2] at R
  refine ev_b eh3 ?_
  refine ev_b (rGetA R (k := 20) rfl) ?_
  refine ev_b (rGetI R (k := 22) rfl) ?_
  refine ev_b (rGetI R (k := 21) rfl) ?_
  obtain ⟨c4, hN⟩ := hnz hN
  obtain ⟨y5, ey5, hN⟩ := hb_some hN
  obtain ⟨h6, eh6, R⟩ := rStI R (k := 20) (x := x2) rfl c4
  rw [Option.some.inj ey5] at R
  refine ev_b eh6 ?_
  refine ev_b (rGetI R (k := 21) rfl) ?_
  obtain ⟨y7, ey7, hN⟩ := hb_some hN
  obtain ⟨h8, eh8, R⟩ := rPut R (k := 21) (v := (y5.1 21) + 1) rfl
  rw [Option.some.inj ey7] at R
  refine ev_b eh8 ?_
  obtain rfl := Option.some.inj hN
  exact ⟨_, rfl, R⟩
set_option maxHeartbeats 1000000 in
set_option maxRecDepth 100000 in
theorem n_Mo_tableP_110 {ad : Nat → Nat} {m F : Nat} : ∀ (h : hH) (s : MS) (x1 : Int32) (x2 : Int32) (s1 : Int32) (q : MS), RepM ad m h s → N_Mo_tableP_110 F s x1 x2 s1 = some q → ∃ h2, M_Mo_tableP_110 F h m x1 x2 m s1 = some h2 ∧ RepM ad m h2 q := by
  intro h s x1 x2 s1 q R hN
  unfold N_Mo_tableP_110 at hN
  unfold M_Mo_tableP_110
  obtain ⟨q1, eq1, hN⟩ := hb_some hN
  refine ev_b (rIs R) ?_
  obtain ⟨h2, eh2, R⟩ := n_Mo_want R eq1
  refine ev_b eh2 ?_
  refine ev_if (fun c3 => ?_) (fun c3 => ?_)
  · have hN := hif_t hN c3
    obtain rfl := Option.some.inj hN
    exact ⟨_, rfl, R⟩
  · have hN := hif_f hN c3
    obtain ⟨q4, eq4, hN⟩ := hb_some hN
    refine ev_b (rIs R) ?_
    obtain ⟨h5, eh5, R⟩ := n_Mo_needs R eq4
    refine ev_b eh5 ?_
    refine ev_if (fun c6 => ?_) (fun c6 => ?_)
    · have hN := hif_t hN c6
      obtain rfl := Option.some.inj hN
      exact ⟨_, rfl, R⟩
    · have hN := hif_f hN c6
      refine ev_b (rGetA R (k := 11) rfl) ?_
      refine ev_b (rGetI R (k := 22) rfl) ?_
      obtain ⟨c7, hN⟩ := hnz hN
      obtain ⟨y8, ey8, hN⟩ := hb_some hN
      obtain ⟨h9, eh9, R⟩ := rStI R (k := 11) (x := x2) rfl c7
      rw [Option.some.inj ey8] at R
      refine ev_b eh9 ?_
      refine ev_b (rGetA R (k := 10) rfl) ?_
      refine ev_b (rGetI R (k := 22) rfl) ?_
      obtain ⟨c10, hN⟩ := hnz hN
      refine ev_b (rLdI R (k := 10) rfl c10) ?_
      obtain ⟨c11, hN⟩ := hnz hN
      obtain ⟨y12, ey12, hN⟩ := hb_some hN
      obtain ⟨h13, eh13, R⟩ := rStI R (k := 10) (x := (y8.2.1 10 (y8.1 22).toNatClampNeg) + 1) rfl c11
      rw [Option.some.inj ey12] at R
      refine ev_b eh13 ?_
      obtain rfl := Option.some.inj hN
      exact ⟨_, rfl, R⟩
set_option maxHeartbeats 1000000 in
set_option maxRecDepth 100000 in
theorem n_Mo_tableP_100 {ad : Nat → Nat} {m F : Nat} : ∀ (h : hH) (s : MS) (x1 : Int32) (x2 : Int32) (q : MS), RepM ad m h s → N_Mo_tableP_100 F s x1 x2 = some q → ∃ h2, M_Mo_tableP_100 F h m x1 x2 = some h2 ∧ RepM ad m h2 q := by
  intro h s x1 x2 q R hN
  unfold N_Mo_tableP_100 at hN
  unfold M_Mo_tableP_100
  refine ev_if (fun c1 => ?_) (fun c1 => ?_)
  · have hN := hif_t hN c1
    exact n_Mo_tableP_110 _ _ _ _ _ _ R hN
  · have hN := hif_f hN c1
    exact n_Mo_tableP_110 _ _ _ _ _ _ R hN
set_option maxHeartbeats 1000000 in
set_option maxRecDepth 100000 in
theorem bn_Mo_tableP_41 {ad : Nat → Nat} {m F : Nat} {m41 : hH → Nat → Int32 → Int32 → Option hH} {r41 : MS → Int32 → Int32 → Option MS} (P41 : ∀ (h : hH) (s : MS) (x1 : Int32) (x2 : Int32) (q : MS), RepM ad m h s → r41 s x1 x2 = some q → ∃ h2, m41 h m x1 x2 = some h2 ∧ RepM ad m h2 q) : ∀ (h : hH) (s : MS) (x1 : Int32) (x2 : Int32) (q : MS), RepM ad m h s → BN_Mo_tableP_41 F r41 s x1 x2 = some q → ∃ h2, B_Mo_tableP_41 F m41 h m x1 x2 = some h2 ∧ RepM ad m h2 q := by
  intro h s x1 x2 q R hN
  unfold BN_Mo_tableP_41 at hN
  unfold B_Mo_tableP_41
  refine ev_b (rGetI R (k := 24) rfl) ?_
  refine ev_if (fun c1 => ?_) (fun c1 => ?_)
  · have hN := hif_t hN c1
    exact n_Mo_tableP_100 _ _ _ _ _ R hN
  · have hN := hif_f hN c1
    obtain ⟨q2, eq2, hN⟩ := hb_some hN
    refine ev_b (rIs R) ?_
    obtain ⟨h3, eh3, R⟩ := n_Mo_now R eq2
    refine ev_b eh3 ?_
    refine ev_if (fun c4 => ?_) (fun c4 => ?_)
    · have hN := hif_t hN c4
      exact n_Mo_tableP_100 _ _ _ _ _ R hN
    · have hN := hif_f hN c4
      refine ev_if (fun c5 => ?_) (fun c5 => ?_)
      · have hN := hif_t hN c5
        exact n_Mo_tableP_100 _ _ _ _ _ R hN
      · have hN := hif_f hN c5
        refine ev_b (rGetA R (k := 12) rfl) ?_
        refine ev_b (rGetI R (k := 22) rfl) ?_
        obtain ⟨q6, eq6, hN⟩ := hb_some hN
        refine ev_b (rIs R) ?_
        obtain ⟨h7, eh7, R⟩ := n_Mo_now R eq6
        refine ev_b eh7 ?_
        obtain ⟨c8, hN⟩ := hnz hN
        obtain ⟨y9, ey9, hN⟩ := hb_some hN
        obtain ⟨h10, eh10, R⟩ := rStI R (k := 12) (x := q6.1) rfl c8
        rw [Option.some.inj ey9] at R
        refine ev_b eh10 ?_
        refine ev_b (rGetI R (k := 23) rfl) ?_
        obtain ⟨y11, ey11, hN⟩ := hb_some hN
        obtain ⟨h12, eh12, R⟩ := rPut R (k := 23) (v := (y9.1 23) + 1) rfl
        rw [Option.some.inj ey11] at R
        refine ev_b eh12 ?_
        exact P41 _ _ _ _ _ R hN
theorem n_Mo_tableP_41 {ad : Nat → Nat} {m F : Nat} : ∀ z : Nat, ∀ (h : hH) (s : MS) (x1 : Int32) (x2 : Int32) (q : MS), RepM ad m h s → N_Mo_tableP_41 F z s x1 x2 = some q → ∃ h2, M_Mo_tableP_41 F z h m x1 x2 = some h2 ∧ RepM ad m h2 q := by
  intro z
  induction z with
  | zero => intro h s x1 x2 q R hN; exact absurd (show (none : Option _) = some q from hN) (fun t => by cases t)
  | succ z ih => exact bn_Mo_tableP_41 ih
set_option maxHeartbeats 1000000 in
set_option maxRecDepth 100000 in
theorem n_Mo_tableP_22 {ad : Nat → Nat} {m F : Nat} : ∀ (h : hH) (s : MS) (x1 : Int32) (s1 : Int32) (q : MS), RepM ad m h s → N_Mo_tableP_22 F s x1 s1 = some q → ∃ h2, M_Mo_tableP_22 F h m x1 m s1 = some h2 ∧ RepM ad m h2 q := by
  intro h s x1 s1 q R hN
  unfold N_Mo_tableP_22 at hN
  unfold M_Mo_tableP_22
  obtain ⟨q1, eq1, hN⟩ := hb_some hN
  refine ev_b (rIs R) ?_
  obtain ⟨h2, eh2, R⟩ := n_Mo_want R eq1
  refine ev_b eh2 ?_
  refine ev_if (fun c3 => ?_) (fun c3 => ?_)
  · have hN := hif_t hN c3
    obtain rfl := Option.some.inj hN
    exact ⟨_, rfl, R⟩
  · have hN := hif_f hN c3
    refine ev_b (rGetI R (k := 23) rfl) ?_
    obtain ⟨y4, ey4, hN⟩ := hb_some hN
    obtain ⟨h5, eh5, R⟩ := rPut R (k := 23) (v := (q1.2.1 23) + 1) rfl
    rw [Option.some.inj ey4] at R
    refine ev_b eh5 ?_
    exact n_Mo_tableP_41 F _ _ _ _ _ R hN
set_option maxHeartbeats 1000000 in
set_option maxRecDepth 100000 in
theorem n_Mo_tableP {ad : Nat → Nat} {m F : Nat} {h : hH} {s : MS} {q : MS} (R : RepM ad m h s) (hN : N_Mo_tableP F s = some q) : ∃ h2, M_Mo_tableP F h m = some h2 ∧ RepM ad m h2 q := by
  unfold N_Mo_tableP at hN
  unfold M_Mo_tableP
  refine ev_b (rGetA R (k := 10) rfl) ?_
  refine ev_b (rGetI R (k := 22) rfl) ?_
  obtain ⟨c1, hN⟩ := hnz hN
  refine ev_b (rLdI R (k := 10) rfl c1) ?_
  refine ev_if (fun c2 => ?_) (fun c2 => ?_)
  · have hN := hif_t hN c2
    exact n_Mo_tableP_22 _ _ _ _ _ R hN
  · have hN := hif_f hN c2
    exact n_Mo_tableP_22 _ _ _ _ _ R hN
set_option maxHeartbeats 1000000 in
set_option maxRecDepth 100000 in
theorem n_Mo_isOperator {ad : Nat → Nat} {m F : Nat} {h : hH} {s : MS} {x0 : Int32} {q : (Int32 × MS)} (R : RepM ad m h s) (hN : N_Mo_isOperator F s x0 = some q) : ∃ h2, M_Mo_isOperator F h x0 = some (q.1, h2) ∧ RepM ad m h2 q.2 := by
  unfold N_Mo_isOperator at hN
  unfold M_Mo_isOperator
  refine ex_if (fun c1 => ?_) (fun c1 => ?_)
  · have hN := hif_t hN c1
    obtain rfl := Option.some.inj hN
    exact ⟨_, rfl, R⟩
  · have hN := hif_f hN c1
    refine ex_if (fun c2 => ?_) (fun c2 => ?_)
    · have hN := hif_t hN c2
      obtain rfl := Option.some.inj hN
      exact ⟨_, rfl, R⟩
    · have hN := hif_f hN c2
      obtain rfl := Option.some.inj hN
      exact ⟨_, rfl, R⟩
set_option maxHeartbeats 1000000 in
set_option maxRecDepth 100000 in
theorem n_Mo_isProduct {ad : Nat → Nat} {m F : Nat} {h : hH} {s : MS} {x0 : Int32} {q : (Int32 × MS)} (R : RepM ad m h s) (hN : N_Mo_isProduct F s x0 = some q) : ∃ h2, M_Mo_isProduct F h x0 = some (q.1, h2) ∧ RepM ad m h2 q.2 := by
  unfold N_Mo_isProduct at hN
  unfold M_Mo_isProduct
  refine ex_if (fun c1 => ?_) (fun c1 => ?_)
  · have hN := hif_t hN c1
    obtain rfl := Option.some.inj hN
    exact ⟨_, rfl, R⟩
  · have hN := hif_f hN c1
    obtain rfl := Option.some.inj hN
    exact ⟨_, rfl, R⟩
set_option maxHeartbeats 1000000 in
set_option maxRecDepth 100000 in
theorem bn_Mo_sum_484 {ad : Nat → Nat} {m F : Nat} {m484 : hH → Nat → Int32 → Option hH} {r484 : MS → Int32 → Option MS} (P484 : ∀ (h : hH) (s : MS) (x1 : Int32) (q : MS), RepM ad m h s → r484 s x1 = some q → ∃ h2, m484 h m x1 = some h2 ∧ RepM ad m h2 q) : ∀ (h : hH) (s : MS) (x1 : Int32) (q : MS), RepM ad m h s → BN_Mo_sum_484 F r484 s x1 = some q → ∃ h2, B_Mo_sum_484 F m484 h m x1 = some h2 ∧ RepM ad m h2 q := by
  intro h s x1 q R hN
  unfold BN_Mo_sum_484 at hN
  unfold B_Mo_sum_484
  refine ev_if (fun c1 => ?_) (fun c1 => ?_)
  · have hN := hif_t hN c1
    obtain rfl := Option.some.inj hN
    exact ⟨_, rfl, R⟩
  · have hN := hif_f hN c1
    refine ev_b (rGetA R (k := 25) rfl) ?_
    obtain ⟨c2, hN⟩ := hnz hN
    refine ev_b (rLdI R (k := 25) rfl c2) ?_
    obtain ⟨q3, eq3, hN⟩ := hb_some hN
    refine ev_b (rIs R) ?_
    obtain ⟨h4, eh4, R⟩ := n_Mo_put R eq3
    refine ev_b eh4 ?_
    exact P484 _ _ _ _ R hN
theorem n_Mo_sum_484 {ad : Nat → Nat} {m F : Nat} : ∀ z : Nat, ∀ (h : hH) (s : MS) (x1 : Int32) (q : MS), RepM ad m h s → N_Mo_sum_484 F z s x1 = some q → ∃ h2, M_Mo_sum_484 F z h m x1 = some h2 ∧ RepM ad m h2 q := by
  intro z
  induction z with
  | zero => intro h s x1 q R hN; exact absurd (show (none : Option _) = some q from hN) (fun t => by cases t)
  | succ z ih => exact bn_Mo_sum_484 ih
set_option maxHeartbeats 1000000 in
set_option maxRecDepth 100000 in
theorem n_Mo_sum_478 {ad : Nat → Nat} {m F : Nat} : ∀ (h : hH) (s : MS) (x1 : Int32) (s1 : Int32) (q : MS), RepM ad m h s → N_Mo_sum_478 F s x1 s1 = some q → ∃ h2, M_Mo_sum_478 F h m x1 m s1 = some h2 ∧ RepM ad m h2 q := by
  intro h s x1 s1 q R hN
  unfold N_Mo_sum_478 at hN
  unfold M_Mo_sum_478
  obtain ⟨q1, eq1, hN⟩ := hb_some hN
  refine ev_b (rIs R) ?_
  obtain ⟨h2, eh2, R⟩ := n_Mo_want R eq1
  refine ev_b eh2 ?_
  refine ev_if (fun c3 => ?_) (fun c3 => ?_)
  · have hN := hif_t hN c3
    obtain rfl := Option.some.inj hN
    exact ⟨_, rfl, R⟩
  · have hN := hif_f hN c3
    exact n_Mo_sum_484 F _ _ _ _ R hN
set_option maxHeartbeats 1000000 in
set_option maxRecDepth 100000 in
theorem n_Mo_sum_468 {ad : Nat → Nat} {m F : Nat} : ∀ (h : hH) (s : MS) (x1 : Int32) (x3 : Int32) (q : MS), RepM ad m h s → N_Mo_sum_468 F s x1 x3 = some q → ∃ h2, M_Mo_sum_468 F h m x1 x3 = some h2 ∧ RepM ad m h2 q := by
  intro h s x1 x3 q R hN
  unfold N_Mo_sum_468 at hN
  unfold M_Mo_sum_468
  refine ev_if (fun c1 => ?_) (fun c1 => ?_)
  · have hN := hif_t hN c1
    exact n_Mo_sum_478 _ _ _ _ _ R hN
  · have hN := hif_f hN c1
    exact n_Mo_sum_478 _ _ _ _ _ R hN
set_option maxHeartbeats 1000000 in
set_option maxRecDepth 100000 in
theorem n_Mo_sum_465 {ad : Nat → Nat} {m F : Nat} {m9 : hH → Nat → Int32 → Int32 → Int32 → Int32 → Option hH} {r9 : MS → Int32 → Int32 → Int32 → Int32 → Option MS} (P9 : ∀ (h : hH) (s : MS) (x1 : Int32) (x2 : Int32) (x3 : Int32) (x4 : Int32) (q : MS), RepM ad m h s → r9 s x1 x2 x3 x4 = some q → ∃ h2, m9 h m x1 x2 x3 x4 = some h2 ∧ RepM ad m h2 q) : ∀ (h : hH) (s : MS) (x1 : Int32) (x2 : Int32) (x3 : Int32) (x4 : Int32) (q : MS), RepM ad m h s → N_Mo_sum_465 F r9 s x1 x2 x3 x4 = some q → ∃ h2, M_Mo_sum_465 F m9 h m x1 x2 x3 x4 = some h2 ∧ RepM ad m h2 q := by
  intro h s x1 x2 x3 x4 q R hN
  unfold N_Mo_sum_465 at hN
  unfold M_Mo_sum_465
  exact P9 _ _ _ _ _ _ _ R hN
set_option maxHeartbeats 1000000 in
set_option maxRecDepth 100000 in
theorem n_Mo_sum_442 {ad : Nat → Nat} {m F : Nat} {m9 : hH → Nat → Int32 → Int32 → Int32 → Int32 → Option hH} {r9 : MS → Int32 → Int32 → Int32 → Int32 → Option MS} (P9 : ∀ (h : hH) (s : MS) (x1 : Int32) (x2 : Int32) (x3 : Int32) (x4 : Int32) (q : MS), RepM ad m h s → r9 s x1 x2 x3 x4 = some q → ∃ h2, m9 h m x1 x2 x3 x4 = some h2 ∧ RepM ad m h2 q) : ∀ (h : hH) (s : MS) (x1 : Int32) (x2 : Int32) (x3 : Int32) (x4 : Int32) (q : MS), RepM ad m h s → N_Mo_sum_442 F r9 s x1 x2 x3 x4 = some q → ∃ h2, M_Mo_sum_442 F m9 h m x1 x2 x3 x4 = some h2 ∧ RepM ad m h2 q := by
  intro h s x1 x2 x3 x4 q R hN
  unfold N_Mo_sum_442 at hN
  unfold M_Mo_sum_442
  refine ev_b (rGetA R (k := 25) rfl) ?_
  obtain ⟨q1, eq1, hN⟩ := hb_some hN
  refine ev_b (rIs R) ?_
  obtain ⟨h2, eh2, R⟩ := n_Mo_now R eq1
  refine ev_b eh2 ?_
  obtain ⟨c3, hN⟩ := hnz hN
  obtain ⟨y4, ey4, hN⟩ := hb_some hN
  obtain ⟨h5, eh5, R⟩ := rStI R (k := 25) (x := q1.1) rfl c3
  rw [Option.some.inj ey4] at R
  refine ev_b eh5 ?_
  refine ev_b (rGetI R (k := 23) rfl) ?_
  obtain ⟨y6, ey6, hN⟩ := hb_some hN
  obtain ⟨h7, eh7, R⟩ := rPut R (k := 23) (v := (y4.1 23) + 1) rfl
  rw [Option.some.inj ey6] at R
  refine ev_b eh7 ?_
  exact n_Mo_sum_465 P9 _ _ _ _ _ _ _ R hN
set_option maxHeartbeats 1000000 in
set_option maxRecDepth 100000 in
theorem n_Mo_sum_425 {ad : Nat → Nat} {m F : Nat} {m9 : hH → Nat → Int32 → Int32 → Int32 → Int32 → Option hH} {r9 : MS → Int32 → Int32 → Int32 → Int32 → Option MS} {m383 : hH → Nat → Int32 → Int32 → Int32 → Int32 → Option hH} {r383 : MS → Int32 → Int32 → Int32 → Int32 → Option MS} (P9 : ∀ (h : hH) (s : MS) (x1 : Int32) (x2 : Int32) (x3 : Int32) (x4 : Int32) (q : MS), RepM ad m h s → r9 s x1 x2 x3 x4 = some q → ∃ h2, m9 h m x1 x2 x3 x4 = some h2 ∧ RepM ad m h2 q) (P383 : ∀ (h : hH) (s : MS) (x1 : Int32) (x2 : Int32) (x3 : Int32) (x4 : Int32) (q : MS), RepM ad m h s → r383 s x1 x2 x3 x4 = some q → ∃ h2, m383 h m x1 x2 x3 x4 = some h2 ∧ RepM ad m h2 q) : ∀ (h : hH) (s : MS) (x1 : Int32) (x2 : Int32) (x3 : Int32) (x4 : Int32) (q : MS), RepM ad m h s → N_Mo_sum_425 F r9 r383 s x1 x2 x3 x4 = some q → ∃ h2, M_Mo_sum_425 F m9 m383 h m x1 x2 x3 x4 = some h2 ∧ RepM ad m h2 q := by
  intro h s x1 x2 x3 x4 q R hN
  unfold N_Mo_sum_425 at hN
  unfold M_Mo_sum_425
  refine ev_b (rGetA R (k := 25) rfl) ?_
  obtain ⟨c1, hN⟩ := hnz hN
  refine ev_b (rLdI R (k := 25) rfl c1) ?_
  obtain ⟨q2, eq2, hN⟩ := hb_some hN
  refine ev_b (rIs R) ?_
  obtain ⟨h3, eh3, R⟩ := n_Mo_put R eq2
  refine ev_b eh3 ?_
  exact P383 _ _ _ _ _ _ _ R hN
set_option maxHeartbeats 1000000 in
set_option maxRecDepth 100000 in
theorem bn_Mo_sum_383 {ad : Nat → Nat} {m F : Nat} {m9 : hH → Nat → Int32 → Int32 → Int32 → Int32 → Option hH} {r9 : MS → Int32 → Int32 → Int32 → Int32 → Option MS} (P9 : ∀ (h : hH) (s : MS) (x1 : Int32) (x2 : Int32) (x3 : Int32) (x4 : Int32) (q : MS), RepM ad m h s → r9 s x1 x2 x3 x4 = some q → ∃ h2, m9 h m x1 x2 x3 x4 = some h2 ∧ RepM ad m h2 q) {m383 : hH → Nat → Int32 → Int32 → Int32 → Int32 → Option hH} {r383 : MS → Int32 → Int32 → Int32 → Int32 → Option MS} (P383 : ∀ (h : hH) (s : MS) (x1 : Int32) (x2 : Int32) (x3 : Int32) (x4 : Int32) (q : MS), RepM ad m h s → r383 s x1 x2 x3 x4 = some q → ∃ h2, m383 h m x1 x2 x3 x4 = some h2 ∧ RepM ad m h2 q) : ∀ (h : hH) (s : MS) (x1 : Int32) (x2 : Int32) (x3 : Int32) (x4 : Int32) (q : MS), RepM ad m h s → BN_Mo_sum_383 F r9 r383 s x1 x2 x3 x4 = some q → ∃ h2, B_Mo_sum_383 F m9 m383 h m x1 x2 x3 x4 = some h2 ∧ RepM ad m h2 q := by
  intro h s x1 x2 x3 x4 q R hN
  unfold BN_Mo_sum_383 at hN
  unfold B_Mo_sum_383
  refine ev_if (fun c1 => ?_) (fun c1 => ?_)
  · have hN := hif_t hN c1
    exact n_Mo_sum_442 P9 _ _ _ _ _ _ _ R hN
  · have hN := hif_f hN c1
    refine ev_b (rGetA R (k := 25) rfl) ?_
    obtain ⟨c2, hN⟩ := hnz hN
    refine ev_b (rLdI R (k := 25) rfl c2) ?_
    obtain ⟨q3, eq3, hN⟩ := hb_some hN
    obtain ⟨h4, eh4, R⟩ := n_Mo_isOperator R eq3
    refine ev_b eh4 ?_
    refine ev_if (fun c5 => ?_) (fun c5 => ?_)
    · have hN := hif_t hN c5
      exact n_Mo_sum_442 P9 _ _ _ _ _ _ _ R hN
    · have hN := hif_f hN c5
      refine ev_b (rGetA R (k := 25) rfl) ?_
      obtain ⟨c6, hN⟩ := hnz hN
      refine ev_b (rLdI R (k := 25) rfl c6) ?_
      obtain ⟨q7, eq7, hN⟩ := hb_some hN
      obtain ⟨h8, eh8, R⟩ := n_Mo_isProduct R eq7
      refine ev_b eh8 ?_
      refine ev_if (fun c9 => ?_) (fun c9 => ?_)
      · have hN := hif_t hN c9
        obtain ⟨q10, eq10, hN⟩ := hb_some hN
        refine ev_b (rIs R) ?_
        obtain ⟨h11, eh11, R⟩ := n_Mo_now R eq10
        refine ev_b eh11 ?_
        obtain ⟨q12, eq12, hN⟩ := hb_some hN
        obtain ⟨h13, eh13, R⟩ := n_Mo_isProduct R eq12
        refine ev_b eh13 ?_
        refine ev_if (fun c14 => ?_) (fun c14 => ?_)
        · have hN := hif_t hN c14
          exact n_Mo_sum_425 P9 P383 _ _ _ _ _ _ _ R hN
        · have hN := hif_f hN c14
          exact n_Mo_sum_442 P9 _ _ _ _ _ _ _ R hN
      · have hN := hif_f hN c9
        exact n_Mo_sum_425 P9 P383 _ _ _ _ _ _ _ R hN
theorem n_Mo_sum_383 {ad : Nat → Nat} {m F : Nat} {m9 : hH → Nat → Int32 → Int32 → Int32 → Int32 → Option hH} {r9 : MS → Int32 → Int32 → Int32 → Int32 → Option MS} (P9 : ∀ (h : hH) (s : MS) (x1 : Int32) (x2 : Int32) (x3 : Int32) (x4 : Int32) (q : MS), RepM ad m h s → r9 s x1 x2 x3 x4 = some q → ∃ h2, m9 h m x1 x2 x3 x4 = some h2 ∧ RepM ad m h2 q) : ∀ z : Nat, ∀ (h : hH) (s : MS) (x1 : Int32) (x2 : Int32) (x3 : Int32) (x4 : Int32) (q : MS), RepM ad m h s → N_Mo_sum_383 F r9 z s x1 x2 x3 x4 = some q → ∃ h2, M_Mo_sum_383 F m9 z h m x1 x2 x3 x4 = some h2 ∧ RepM ad m h2 q := by
  intro z
  induction z with
  | zero => intro h s x1 x2 x3 x4 q R hN; exact absurd (show (none : Option _) = some q from hN) (fun t => by cases t)
  | succ z ih => exact bn_Mo_sum_383 P9 ih
set_option maxHeartbeats 1000000 in
set_option maxRecDepth 100000 in
theorem bn_Mo_sum_317 {ad : Nat → Nat} {m F : Nat} {m9 : hH → Nat → Int32 → Int32 → Int32 → Int32 → Option hH} {r9 : MS → Int32 → Int32 → Int32 → Int32 → Option MS} {m249 : hH → Nat → Int32 → Int32 → Int32 → Int32 → Option hH} {r249 : MS → Int32 → Int32 → Int32 → Int32 → Option MS} (P9 : ∀ (h : hH) (s : MS) (x1 : Int32) (x2 : Int32) (x3 : Int32) (x4 : Int32) (q : MS), RepM ad m h s → r9 s x1 x2 x3 x4 = some q → ∃ h2, m9 h m x1 x2 x3 x4 = some h2 ∧ RepM ad m h2 q) (P249 : ∀ (h : hH) (s : MS) (x1 : Int32) (x2 : Int32) (x3 : Int32) (x6 : Int32) (q : MS), RepM ad m h s → r249 s x1 x2 x3 x6 = some q → ∃ h2, m249 h m x1 x2 x3 x6 = some h2 ∧ RepM ad m h2 q) {m317 : hH → Nat → Int32 → Int32 → Int32 → Int32 → Option hH} {r317 : MS → Int32 → Int32 → Int32 → Int32 → Option MS} (P317 : ∀ (h : hH) (s : MS) (x1 : Int32) (x2 : Int32) (x3 : Int32) (x6 : Int32) (q : MS), RepM ad m h s → r317 s x1 x2 x3 x6 = some q → ∃ h2, m317 h m x1 x2 x3 x6 = some h2 ∧ RepM ad m h2 q) : ∀ (h : hH) (s : MS) (x1 : Int32) (x2 : Int32) (x3 : Int32) (x6 : Int32) (q : MS), RepM ad m h s → BN_Mo_sum_317 F r9 r249 r317 s x1 x2 x3 x6 = some q → ∃ h2, B_Mo_sum_317 F m9 m249 m317 h m x1 x2 x3 x6 = some h2 ∧ RepM ad m h2 q := by
  intro h s x1 x2 x3 x6 q R hN
  unfold BN_Mo_sum_317 at hN
  unfold B_Mo_sum_317
  refine ev_b (rGetA R (k := 25) rfl) ?_
  obtain ⟨c1, hN⟩ := hnz hN
  refine ev_b (rLdI R (k := 25) rfl c1) ?_
  refine ev_if (fun c2 => ?_) (fun c2 => ?_)
  · have hN := hif_t hN c2
    refine ev_b (rGetI R (k := 23) rfl) ?_
    obtain ⟨y3, ey3, hN⟩ := hb_some hN
    obtain ⟨h4, eh4, R⟩ := rPut R (k := 23) (v := (s.1 23) + 1) rfl
    rw [Option.some.inj ey3] at R
    refine ev_b eh4 ?_
    exact P249 _ _ _ _ _ _ _ R hN
  · have hN := hif_f hN c2
    refine ev_b (rGetA R (k := 25) rfl) ?_
    obtain ⟨c5, hN⟩ := hnz hN
    refine ev_b (rLdI R (k := 25) rfl c5) ?_
    obtain ⟨q6, eq6, hN⟩ := hb_some hN
    refine ev_b (rIs R) ?_
    obtain ⟨h7, eh7, R⟩ := n_Mo_put R eq6
    refine ev_b eh7 ?_
    exact P317 _ _ _ _ _ _ _ R hN
theorem n_Mo_sum_317 {ad : Nat → Nat} {m F : Nat} {m9 : hH → Nat → Int32 → Int32 → Int32 → Int32 → Option hH} {r9 : MS → Int32 → Int32 → Int32 → Int32 → Option MS} {m249 : hH → Nat → Int32 → Int32 → Int32 → Int32 → Option hH} {r249 : MS → Int32 → Int32 → Int32 → Int32 → Option MS} (P9 : ∀ (h : hH) (s : MS) (x1 : Int32) (x2 : Int32) (x3 : Int32) (x4 : Int32) (q : MS), RepM ad m h s → r9 s x1 x2 x3 x4 = some q → ∃ h2, m9 h m x1 x2 x3 x4 = some h2 ∧ RepM ad m h2 q) (P249 : ∀ (h : hH) (s : MS) (x1 : Int32) (x2 : Int32) (x3 : Int32) (x6 : Int32) (q : MS), RepM ad m h s → r249 s x1 x2 x3 x6 = some q → ∃ h2, m249 h m x1 x2 x3 x6 = some h2 ∧ RepM ad m h2 q) : ∀ z : Nat, ∀ (h : hH) (s : MS) (x1 : Int32) (x2 : Int32) (x3 : Int32) (x6 : Int32) (q : MS), RepM ad m h s → N_Mo_sum_317 F r9 r249 z s x1 x2 x3 x6 = some q → ∃ h2, M_Mo_sum_317 F m9 m249 z h m x1 x2 x3 x6 = some h2 ∧ RepM ad m h2 q := by
  intro z
  induction z with
  | zero => intro h s x1 x2 x3 x6 q R hN; exact absurd (show (none : Option _) = some q from hN) (fun t => by cases t)
  | succ z ih => exact bn_Mo_sum_317 P9 P249 ih
set_option maxHeartbeats 1000000 in
set_option maxRecDepth 100000 in
theorem n_Mo_sum_310 {ad : Nat → Nat} {m F : Nat} {m9 : hH → Nat → Int32 → Int32 → Int32 → Int32 → Option hH} {r9 : MS → Int32 → Int32 → Int32 → Int32 → Option MS} {m249 : hH → Nat → Int32 → Int32 → Int32 → Int32 → Option hH} {r249 : MS → Int32 → Int32 → Int32 → Int32 → Option MS} (P9 : ∀ (h : hH) (s : MS) (x1 : Int32) (x2 : Int32) (x3 : Int32) (x4 : Int32) (q : MS), RepM ad m h s → r9 s x1 x2 x3 x4 = some q → ∃ h2, m9 h m x1 x2 x3 x4 = some h2 ∧ RepM ad m h2 q) (P249 : ∀ (h : hH) (s : MS) (x1 : Int32) (x2 : Int32) (x3 : Int32) (x6 : Int32) (q : MS), RepM ad m h s → r249 s x1 x2 x3 x6 = some q → ∃ h2, m249 h m x1 x2 x3 x6 = some h2 ∧ RepM ad m h2 q) : ∀ (h : hH) (s : MS) (x1 : Int32) (x2 : Int32) (x3 : Int32) (s0 : Int32) (q : MS), RepM ad m h s → N_Mo_sum_310 F r9 r249 s x1 x2 x3 s0 = some q → ∃ h2, M_Mo_sum_310 F m9 m249 h m x1 x2 x3 s0 = some h2 ∧ RepM ad m h2 q := by
  intro h s x1 x2 x3 s0 q R hN
  unfold N_Mo_sum_310 at hN
  unfold M_Mo_sum_310
  refine ev_if (fun c1 => ?_) (fun c1 => ?_)
  · have hN := hif_t hN c1
    exact P249 _ _ _ _ _ _ _ R hN
  · have hN := hif_f hN c1
    exact n_Mo_sum_317 P9 P249 F _ _ _ _ _ _ _ R hN
set_option maxHeartbeats 1000000 in
set_option maxRecDepth 100000 in
theorem n_Mo_sum_309 {ad : Nat → Nat} {m F : Nat} {m9 : hH → Nat → Int32 → Int32 → Int32 → Int32 → Option hH} {r9 : MS → Int32 → Int32 → Int32 → Int32 → Option MS} {m249 : hH → Nat → Int32 → Int32 → Int32 → Int32 → Option hH} {r249 : MS → Int32 → Int32 → Int32 → Int32 → Option MS} (P9 : ∀ (h : hH) (s : MS) (x1 : Int32) (x2 : Int32) (x3 : Int32) (x4 : Int32) (q : MS), RepM ad m h s → r9 s x1 x2 x3 x4 = some q → ∃ h2, m9 h m x1 x2 x3 x4 = some h2 ∧ RepM ad m h2 q) (P249 : ∀ (h : hH) (s : MS) (x1 : Int32) (x2 : Int32) (x3 : Int32) (x6 : Int32) (q : MS), RepM ad m h s → r249 s x1 x2 x3 x6 = some q → ∃ h2, m249 h m x1 x2 x3 x6 = some h2 ∧ RepM ad m h2 q) : ∀ (h : hH) (s : MS) (x1 : Int32) (x2 : Int32) (x3 : Int32) (q : MS), RepM ad m h s → N_Mo_sum_309 F r9 r249 s x1 x2 x3 = some q → ∃ h2, M_Mo_sum_309 F m9 m249 h m x1 x2 x3 = some h2 ∧ RepM ad m h2 q := by
  intro h s x1 x2 x3 q R hN
  unfold N_Mo_sum_309 at hN
  unfold M_Mo_sum_309
  exact n_Mo_sum_310 P9 P249 _ _ _ _ _ _ _ R hN
set_option maxHeartbeats 1000000 in
set_option maxRecDepth 100000 in
theorem n_Mo_sum_292 {ad : Nat → Nat} {m F : Nat} {m9 : hH → Nat → Int32 → Int32 → Int32 → Int32 → Option hH} {r9 : MS → Int32 → Int32 → Int32 → Int32 → Option MS} {m249 : hH → Nat → Int32 → Int32 → Int32 → Int32 → Option hH} {r249 : MS → Int32 → Int32 → Int32 → Int32 → Option MS} (P9 : ∀ (h : hH) (s : MS) (x1 : Int32) (x2 : Int32) (x3 : Int32) (x4 : Int32) (q : MS), RepM ad m h s → r9 s x1 x2 x3 x4 = some q → ∃ h2, m9 h m x1 x2 x3 x4 = some h2 ∧ RepM ad m h2 q) (P249 : ∀ (h : hH) (s : MS) (x1 : Int32) (x2 : Int32) (x3 : Int32) (x6 : Int32) (q : MS), RepM ad m h s → r249 s x1 x2 x3 x6 = some q → ∃ h2, m249 h m x1 x2 x3 x6 = some h2 ∧ RepM ad m h2 q) : ∀ (h : hH) (s : MS) (x1 : Int32) (x2 : Int32) (x3 : Int32) (q : MS), RepM ad m h s → N_Mo_sum_292 F r9 r249 s x1 x2 x3 = some q → ∃ h2, M_Mo_sum_292 F m9 m249 h m x1 x2 x3 = some h2 ∧ RepM ad m h2 q := by
  intro h s x1 x2 x3 q R hN
  unfold N_Mo_sum_292 at hN
  unfold M_Mo_sum_292
  refine ev_if (fun c1 => ?_) (fun c1 => ?_)
  · have hN := hif_t hN c1
    exact n_Mo_sum_309 P9 P249 _ _ _ _ _ _ R hN
  · have hN := hif_f hN c1
    obtain ⟨q2, eq2, hN⟩ := hb_some hN
    refine ev_b (rIs R) ?_
    obtain ⟨h3, eh3, R⟩ := n_Mo_now R eq2
    refine ev_b eh3 ?_
    refine ev_if (fun c4 => ?_) (fun c4 => ?_)
    · have hN := hif_t hN c4
      exact n_Mo_sum_310 P9 P249 _ _ _ _ _ _ _ R hN
    · have hN := hif_f hN c4
      exact n_Mo_sum_309 P9 P249 _ _ _ _ _ _ R hN
set_option maxHeartbeats 1000000 in
set_option maxRecDepth 100000 in
theorem bn_Mo_sum_254 {ad : Nat → Nat} {m F : Nat} {m9 : hH → Nat → Int32 → Int32 → Int32 → Int32 → Option hH} {r9 : MS → Int32 → Int32 → Int32 → Int32 → Option MS} {m249 : hH → Nat → Int32 → Int32 → Int32 → Int32 → Option hH} {r249 : MS → Int32 → Int32 → Int32 → Int32 → Option MS} (P9 : ∀ (h : hH) (s : MS) (x1 : Int32) (x2 : Int32) (x3 : Int32) (x4 : Int32) (q : MS), RepM ad m h s → r9 s x1 x2 x3 x4 = some q → ∃ h2, m9 h m x1 x2 x3 x4 = some h2 ∧ RepM ad m h2 q) (P249 : ∀ (h : hH) (s : MS) (x1 : Int32) (x2 : Int32) (x3 : Int32) (x6 : Int32) (q : MS), RepM ad m h s → r249 s x1 x2 x3 x6 = some q → ∃ h2, m249 h m x1 x2 x3 x6 = some h2 ∧ RepM ad m h2 q) {m254 : hH → Nat → Int32 → Int32 → Int32 → Option hH} {r254 : MS → Int32 → Int32 → Int32 → Option MS} (P254 : ∀ (h : hH) (s : MS) (x1 : Int32) (x2 : Int32) (x3 : Int32) (q : MS), RepM ad m h s → r254 s x1 x2 x3 = some q → ∃ h2, m254 h m x1 x2 x3 = some h2 ∧ RepM ad m h2 q) : ∀ (h : hH) (s : MS) (x1 : Int32) (x2 : Int32) (x3 : Int32) (q : MS), RepM ad m h s → BN_Mo_sum_254 F r9 r249 r254 s x1 x2 x3 = some q → ∃ h2, B_Mo_sum_254 F m9 m249 m254 h m x1 x2 x3 = some h2 ∧ RepM ad m h2 q := by
  intro h s x1 x2 x3 q R hN
  unfold BN_Mo_sum_254 at hN
  unfold B_Mo_sum_254
  refine ev_if (fun c1 => ?_) (fun c1 => ?_)
  · have hN := hif_t hN c1
    exact n_Mo_sum_292 P9 P249 _ _ _ _ _ _ R hN
  · have hN := hif_f hN c1
    refine ev_b (rGetA R (k := 25) rfl) ?_
    obtain ⟨c2, hN⟩ := hnz hN
    refine ev_b (rLdI R (k := 25) rfl c2) ?_
    refine ev_if (fun c3 => ?_) (fun c3 => ?_)
    · have hN := hif_t hN c3
      refine ev_b (rGetA R (k := 26) rfl) ?_
      obtain ⟨c4, hN⟩ := hnz hN
      refine ev_b (rLdI R (k := 26) rfl c4) ?_
      obtain ⟨q5, eq5, hN⟩ := hb_some hN
      refine ev_b (rIs R) ?_
      obtain ⟨h6, eh6, R⟩ := n_Mo_put R eq5
      refine ev_b eh6 ?_
      exact P254 _ _ _ _ _ _ R hN
    · have hN := hif_f hN c3
      exact n_Mo_sum_292 P9 P249 _ _ _ _ _ _ R hN
theorem n_Mo_sum_254 {ad : Nat → Nat} {m F : Nat} {m9 : hH → Nat → Int32 → Int32 → Int32 → Int32 → Option hH} {r9 : MS → Int32 → Int32 → Int32 → Int32 → Option MS} {m249 : hH → Nat → Int32 → Int32 → Int32 → Int32 → Option hH} {r249 : MS → Int32 → Int32 → Int32 → Int32 → Option MS} (P9 : ∀ (h : hH) (s : MS) (x1 : Int32) (x2 : Int32) (x3 : Int32) (x4 : Int32) (q : MS), RepM ad m h s → r9 s x1 x2 x3 x4 = some q → ∃ h2, m9 h m x1 x2 x3 x4 = some h2 ∧ RepM ad m h2 q) (P249 : ∀ (h : hH) (s : MS) (x1 : Int32) (x2 : Int32) (x3 : Int32) (x6 : Int32) (q : MS), RepM ad m h s → r249 s x1 x2 x3 x6 = some q → ∃ h2, m249 h m x1 x2 x3 x6 = some h2 ∧ RepM ad m h2 q) : ∀ z : Nat, ∀ (h : hH) (s : MS) (x1 : Int32) (x2 : Int32) (x3 : Int32) (q : MS), RepM ad m h s → N_Mo_sum_254 F r9 r249 z s x1 x2 x3 = some q → ∃ h2, M_Mo_sum_254 F m9 m249 z h m x1 x2 x3 = some h2 ∧ RepM ad m h2 q := by
  intro z
  induction z with
  | zero => intro h s x1 x2 x3 q R hN; exact absurd (show (none : Option _) = some q from hN) (fun t => by cases t)
  | succ z ih => exact bn_Mo_sum_254 P9 P249 ih
set_option maxHeartbeats 1000000 in
set_option maxRecDepth 100000 in
theorem bn_Mo_sum_249 {ad : Nat → Nat} {m F : Nat} {m9 : hH → Nat → Int32 → Int32 → Int32 → Int32 → Option hH} {r9 : MS → Int32 → Int32 → Int32 → Int32 → Option MS} (P9 : ∀ (h : hH) (s : MS) (x1 : Int32) (x2 : Int32) (x3 : Int32) (x4 : Int32) (q : MS), RepM ad m h s → r9 s x1 x2 x3 x4 = some q → ∃ h2, m9 h m x1 x2 x3 x4 = some h2 ∧ RepM ad m h2 q) {m249 : hH → Nat → Int32 → Int32 → Int32 → Int32 → Option hH} {r249 : MS → Int32 → Int32 → Int32 → Int32 → Option MS} (P249 : ∀ (h : hH) (s : MS) (x1 : Int32) (x2 : Int32) (x3 : Int32) (x6 : Int32) (q : MS), RepM ad m h s → r249 s x1 x2 x3 x6 = some q → ∃ h2, m249 h m x1 x2 x3 x6 = some h2 ∧ RepM ad m h2 q) : ∀ (h : hH) (s : MS) (x1 : Int32) (x2 : Int32) (x3 : Int32) (x6 : Int32) (q : MS), RepM ad m h s → BN_Mo_sum_249 F r9 r249 s x1 x2 x3 x6 = some q → ∃ h2, B_Mo_sum_249 F m9 m249 h m x1 x2 x3 x6 = some h2 ∧ RepM ad m h2 q := by
  intro h s x1 x2 x3 x6 q R hN
  unfold BN_Mo_sum_249 at hN
  unfold B_Mo_sum_249
  refine ev_if (fun c1 => ?_) (fun c1 => ?_)
  · have hN := hif_t hN c1
    obtain ⟨q2, eq2, hN⟩ := hb_some hN
    refine ev_b (rIs R) ?_
    obtain ⟨h3, eh3, R⟩ := n_Mo_now R eq2
    refine ev_b eh3 ?_
    obtain ⟨q4, eq4, hN⟩ := hb_some hN
    obtain ⟨h5, eh5, R⟩ := n_Mo_isOperator R eq4
    refine ev_b eh5 ?_
    refine ev_if (fun c6 => ?_) (fun c6 => ?_)
    · have hN := hif_t hN c6
      exact n_Mo_sum_465 P9 _ _ _ _ _ _ _ R hN
    · have hN := hif_f hN c6
      exact n_Mo_sum_383 P9 F _ _ _ _ _ _ _ R hN
  · have hN := hif_f hN c1
    exact n_Mo_sum_254 P9 P249 F _ _ _ _ _ _ R hN
theorem n_Mo_sum_249 {ad : Nat → Nat} {m F : Nat} {m9 : hH → Nat → Int32 → Int32 → Int32 → Int32 → Option hH} {r9 : MS → Int32 → Int32 → Int32 → Int32 → Option MS} (P9 : ∀ (h : hH) (s : MS) (x1 : Int32) (x2 : Int32) (x3 : Int32) (x4 : Int32) (q : MS), RepM ad m h s → r9 s x1 x2 x3 x4 = some q → ∃ h2, m9 h m x1 x2 x3 x4 = some h2 ∧ RepM ad m h2 q) : ∀ z : Nat, ∀ (h : hH) (s : MS) (x1 : Int32) (x2 : Int32) (x3 : Int32) (x6 : Int32) (q : MS), RepM ad m h s → N_Mo_sum_249 F r9 z s x1 x2 x3 x6 = some q → ∃ h2, M_Mo_sum_249 F m9 z h m x1 x2 x3 x6 = some h2 ∧ RepM ad m h2 q := by
  intro z
  induction z with
  | zero => intro h s x1 x2 x3 x6 q R hN; exact absurd (show (none : Option _) = some q from hN) (fun t => by cases t)
  | succ z ih => exact bn_Mo_sum_249 P9 ih
set_option maxHeartbeats 1000000 in
set_option maxRecDepth 100000 in
theorem n_Mo_sum_246 {ad : Nat → Nat} {m F : Nat} {m9 : hH → Nat → Int32 → Int32 → Int32 → Int32 → Option hH} {r9 : MS → Int32 → Int32 → Int32 → Int32 → Option MS} (P9 : ∀ (h : hH) (s : MS) (x1 : Int32) (x2 : Int32) (x3 : Int32) (x4 : Int32) (q : MS), RepM ad m h s → r9 s x1 x2 x3 x4 = some q → ∃ h2, m9 h m x1 x2 x3 x4 = some h2 ∧ RepM ad m h2 q) : ∀ (h : hH) (s : MS) (x1 : Int32) (x2 : Int32) (x3 : Int32) (q : MS), RepM ad m h s → N_Mo_sum_246 F r9 s x1 x2 x3 = some q → ∃ h2, M_Mo_sum_246 F m9 h m x1 x2 x3 = some h2 ∧ RepM ad m h2 q := by
  intro h s x1 x2 x3 q R hN
  unfold N_Mo_sum_246 at hN
  unfold M_Mo_sum_246
  exact n_Mo_sum_249 P9 F _ _ _ _ _ _ _ R hN
set_option maxHeartbeats 1000000 in
set_option maxRecDepth 100000 in
theorem n_Mo_sum_164 {ad : Nat → Nat} {m F : Nat} {m9 : hH → Nat → Int32 → Int32 → Int32 → Int32 → Option hH} {r9 : MS → Int32 → Int32 → Int32 → Int32 → Option MS} (P9 : ∀ (h : hH) (s : MS) (x1 : Int32) (x2 : Int32) (x3 : Int32) (x4 : Int32) (q : MS), RepM ad m h s → r9 s x1 x2 x3 x4 = some q → ∃ h2, m9 h m x1 x2 x3 x4 = some h2 ∧ RepM ad m h2 q) : ∀ (h : hH) (s : MS) (x1 : Int32) (x2 : Int32) (x3 : Int32) (x4 : Int32) (x5 : Int32) (s1 : Int32) (q : MS), RepM ad m h s → N_Mo_sum_164 F r9 s x1 x2 x3 x4 x5 s1 = some q → ∃ h2, M_Mo_sum_164 F m9 h m x1 x2 x3 x4 x5 m s1 = some h2 ∧ RepM ad m h2 q := by
  intro h s x1 x2 x3 x4 x5 s1 q R hN
  unfold N_Mo_sum_164 at hN
  unfold M_Mo_sum_164
  obtain ⟨q1, eq1, hN⟩ := hb_some hN
  refine ev_b (rIs R) ?_
  obtain ⟨h2, eh2, R⟩ := n_Mo_want R eq1
  refine ev_b eh2 ?_
  refine ev_if (fun c3 => ?_) (fun c3 => ?_)
  · have hN := hif_t hN c3
    obtain rfl := Option.some.inj hN
    exact ⟨_, rfl, R⟩
  · have hN := hif_f hN c3
    refine ev_if (fun c4 => ?_) (fun c4 => ?_)
    · have hN := hif_t hN c4
      refine ev_b (rGetA R (k := 25) rfl) ?_
      obtain ⟨c11, hN⟩ := hnz hN
      obtain ⟨y12, ey12, hN⟩ := hb_some hN
      obtain ⟨h13, eh13, R⟩ := rStI R (k := 25) (x := (-7)) rfl c11
      rw [Option.some.inj ey12] at R
      refine ev_b eh13 ?_
      refine ev_b (rGetA R (k := 26) rfl) ?_
      obtain ⟨q14, eq14, hN⟩ := hb_some hN
      refine ev_b (rIs R) ?_
      obtain ⟨h15, eh15, R⟩ := n_Mo_now R eq14
      refine ev_b eh15 ?_
      obtain ⟨c16, hN⟩ := hnz hN
      obtain ⟨y17, ey17, hN⟩ := hb_some hN
      obtain ⟨h18, eh18, R⟩ := rStI R (k := 26) (x := q14.1) rfl c16
      rw [Option.some.inj ey17] at R
      refine ev_b eh18 ?_
      refine ev_b (rGetI R (k := 23) rfl) ?_
      obtain ⟨y19, ey19, hN⟩ := hb_some hN
      obtain ⟨h20, eh20, R⟩ := rPut R (k := 23) (v := (y17.1 23) + 1) rfl
      rw [Option.some.inj ey19] at R
      refine ev_b eh20 ?_
      exact P9 _ _ _ _ _ _ _ R hN
    · have hN := hif_f hN c4
      obtain ⟨q5, eq5, hN⟩ := hb_some hN
      refine ev_b (rIs R) ?_
      obtain ⟨h6, eh6, R⟩ := n_Mo_now R eq5
      refine ev_b eh6 ?_
      obtain ⟨q7, eq7, hN⟩ := hb_some hN
      refine ev_b (rIs R) ?_
      obtain ⟨h8, eh8, R⟩ := n_Mo_put R eq7
      refine ev_b eh8 ?_
      refine ev_b (rGetI R (k := 23) rfl) ?_
      obtain ⟨y9, ey9, hN⟩ := hb_some hN
      obtain ⟨h10, eh10, R⟩ := rPut R (k := 23) (v := (q7.1 23) + 1) rfl
      rw [Option.some.inj ey9] at R
      refine ev_b eh10 ?_
      exact n_Mo_sum_246 P9 _ _ _ _ _ _ R hN
set_option maxHeartbeats 1000000 in
set_option maxRecDepth 100000 in
theorem n_Mo_sum_163 {ad : Nat → Nat} {m F : Nat} {m9 : hH → Nat → Int32 → Int32 → Int32 → Int32 → Option hH} {r9 : MS → Int32 → Int32 → Int32 → Int32 → Option MS} (P9 : ∀ (h : hH) (s : MS) (x1 : Int32) (x2 : Int32) (x3 : Int32) (x4 : Int32) (q : MS), RepM ad m h s → r9 s x1 x2 x3 x4 = some q → ∃ h2, m9 h m x1 x2 x3 x4 = some h2 ∧ RepM ad m h2 q) : ∀ (h : hH) (s : MS) (x1 : Int32) (x2 : Int32) (x3 : Int32) (x4 : Int32) (x5 : Int32) (q : MS), RepM ad m h s → N_Mo_sum_163 F r9 s x1 x2 x3 x4 x5 = some q → ∃ h2, M_Mo_sum_163 F m9 h m x1 x2 x3 x4 x5 m = some h2 ∧ RepM ad m h2 q := by
  intro h s x1 x2 x3 x4 x5 q R hN
  unfold N_Mo_sum_163 at hN
  unfold M_Mo_sum_163
  exact n_Mo_sum_164 P9 _ _ _ _ _ _ _ _ _ R hN
set_option maxHeartbeats 1000000 in
set_option maxRecDepth 100000 in
theorem n_Mo_sum_156 {ad : Nat → Nat} {m F : Nat} {m9 : hH → Nat → Int32 → Int32 → Int32 → Int32 → Option hH} {r9 : MS → Int32 → Int32 → Int32 → Int32 → Option MS} (P9 : ∀ (h : hH) (s : MS) (x1 : Int32) (x2 : Int32) (x3 : Int32) (x4 : Int32) (q : MS), RepM ad m h s → r9 s x1 x2 x3 x4 = some q → ∃ h2, m9 h m x1 x2 x3 x4 = some h2 ∧ RepM ad m h2 q) : ∀ (h : hH) (s : MS) (x1 : Int32) (x2 : Int32) (x3 : Int32) (x4 : Int32) (x5 : Int32) (s1 : Int32) (s2 : Int32) (q : MS), RepM ad m h s → N_Mo_sum_156 F r9 s x1 x2 x3 x4 x5 s1 s2 = some q → ∃ h2, M_Mo_sum_156 F m9 h m x1 x2 x3 x4 x5 m s1 s2 = some h2 ∧ RepM ad m h2 q := by
  intro h s x1 x2 x3 x4 x5 s1 s2 q R hN
  unfold N_Mo_sum_156 at hN
  unfold M_Mo_sum_156
  refine ev_if (fun c1 => ?_) (fun c1 => ?_)
  · have hN := hif_t hN c1
    exact n_Mo_sum_163 P9 _ _ _ _ _ _ _ _ R hN
  · have hN := hif_f hN c1
    exact n_Mo_sum_164 P9 _ _ _ _ _ _ _ _ _ R hN
set_option maxHeartbeats 1000000 in
set_option maxRecDepth 100000 in
theorem n_Mo_sum_123 {ad : Nat → Nat} {m F : Nat} {m9 : hH → Nat → Int32 → Int32 → Int32 → Int32 → Option hH} {r9 : MS → Int32 → Int32 → Int32 → Int32 → Option MS} (P9 : ∀ (h : hH) (s : MS) (x1 : Int32) (x2 : Int32) (x3 : Int32) (x4 : Int32) (q : MS), RepM ad m h s → r9 s x1 x2 x3 x4 = some q → ∃ h2, m9 h m x1 x2 x3 x4 = some h2 ∧ RepM ad m h2 q) : ∀ (h : hH) (s : MS) (x1 : Int32) (x2 : Int32) (x3 : Int32) (x4 : Int32) (x5 : Int32) (q : MS), RepM ad m h s → N_Mo_sum_123 F r9 s x1 x2 x3 x4 x5 = some q → ∃ h2, M_Mo_sum_123 F m9 h m x1 x2 x3 x4 x5 = some h2 ∧ RepM ad m h2 q := by
  intro h s x1 x2 x3 x4 x5 q R hN
  unfold N_Mo_sum_123 at hN
  unfold M_Mo_sum_123
  obtain ⟨q1, eq1, hN⟩ := hb_some hN
  refine ev_b (rIs R) ?_
  obtain ⟨h2, eh2, R⟩ := n_Mo_now R eq1
  refine ev_b eh2 ?_
  refine ev_if (fun c3 => ?_) (fun c3 => ?_)
  · have hN := hif_t hN c3
    exact n_Mo_sum_163 P9 _ _ _ _ _ _ _ _ R hN
  · have hN := hif_f hN c3
    obtain ⟨q4, eq4, hN⟩ := hb_some hN
    refine ev_b (rIs R) ?_
    obtain ⟨h5, eh5, R⟩ := n_Mo_now R eq4
    refine ev_b eh5 ?_
    refine ev_if (fun c6 => ?_) (fun c6 => ?_)
    · have hN := hif_t hN c6
      refine ev_b (rGetA R (k := 10) rfl) ?_
      refine ev_b (rGetI R (k := 22) rfl) ?_
      obtain ⟨c7, hN⟩ := hnz hN
      refine ev_b (rLdI R (k := 10) rfl c7) ?_
      exact n_Mo_sum_156 P9 _ _ _ _ _ _ _ _ _ _ R hN
    · have hN := hif_f hN c6
      exact n_Mo_sum_156 P9 _ _ _ _ _ _ _ _ _ _ R hN
set_option maxHeartbeats 1000000 in
set_option maxRecDepth 100000 in
theorem n_Mo_sum_65 {ad : Nat → Nat} {m F : Nat} {m9 : hH → Nat → Int32 → Int32 → Int32 → Int32 → Option hH} {r9 : MS → Int32 → Int32 → Int32 → Int32 → Option MS} (P9 : ∀ (h : hH) (s : MS) (x1 : Int32) (x2 : Int32) (x3 : Int32) (x4 : Int32) (q : MS), RepM ad m h s → r9 s x1 x2 x3 x4 = some q → ∃ h2, m9 h m x1 x2 x3 x4 = some h2 ∧ RepM ad m h2 q) : ∀ (h : hH) (s : MS) (x1 : Int32) (x2 : Int32) (x3 : Int32) (x4 : Int32) (x5 : Int32) (s1 : Int32) (q : MS), RepM ad m h s → N_Mo_sum_65 F r9 s x1 x2 x3 x4 x5 s1 = some q → ∃ h2, M_Mo_sum_65 F m9 h m x1 x2 x3 x4 x5 m s1 = some h2 ∧ RepM ad m h2 q := by
  intro h s x1 x2 x3 x4 x5 s1 q R hN
  unfold N_Mo_sum_65 at hN
  unfold M_Mo_sum_65
  obtain ⟨q1, eq1, hN⟩ := hb_some hN
  refine ev_b (rIs R) ?_
  obtain ⟨h2, eh2, R⟩ := n_Mo_want R eq1
  refine ev_b eh2 ?_
  refine ev_if (fun c3 => ?_) (fun c3 => ?_)
  · have hN := hif_t hN c3
    obtain rfl := Option.some.inj hN
    exact ⟨_, rfl, R⟩
  · have hN := hif_f hN c3
    refine ev_b (rGetI R (k := 23) rfl) ?_
    obtain ⟨y4, ey4, hN⟩ := hb_some hN
    obtain ⟨h5, eh5, R⟩ := rPut R (k := 23) (v := (q1.2.1 23) + 1) rfl
    rw [Option.some.inj ey4] at R
    refine ev_b eh5 ?_
    refine ev_if (fun c6 => ?_) (fun c6 => ?_)
    · have hN := hif_t hN c6
      refine ev_b (rGetA R (k := 25) rfl) ?_
      obtain ⟨c11, hN⟩ := hnz hN
      obtain ⟨y12, ey12, hN⟩ := hb_some hN
      obtain ⟨h13, eh13, R⟩ := rStI R (k := 25) (x := (-8)) rfl c11
      rw [Option.some.inj ey12] at R
      refine ev_b eh13 ?_
      exact P9 _ _ _ _ _ _ _ R hN
    · have hN := hif_f hN c6
      refine ev_if (fun c7 => ?_) (fun c7 => ?_)
      · have hN := hif_t hN c7
        exact n_Mo_sum_123 P9 _ _ _ _ _ _ _ _ R hN
      · have hN := hif_f hN c7
        refine ev_if (fun c8 => ?_) (fun c8 => ?_)
        · have hN := hif_t hN c8
          exact n_Mo_sum_123 P9 _ _ _ _ _ _ _ _ R hN
        · have hN := hif_f hN c8
          obtain ⟨q9, eq9, hN⟩ := hb_some hN
          refine ev_b (rIs R) ?_
          obtain ⟨h10, eh10, R⟩ := n_Mo_put R eq9
          refine ev_b eh10 ?_
          exact n_Mo_sum_246 P9 _ _ _ _ _ _ R hN
set_option maxHeartbeats 1000000 in
set_option maxRecDepth 100000 in
theorem n_Mo_sum_64 {ad : Nat → Nat} {m F : Nat} {m9 : hH → Nat → Int32 → Int32 → Int32 → Int32 → Option hH} {r9 : MS → Int32 → Int32 → Int32 → Int32 → Option MS} (P9 : ∀ (h : hH) (s : MS) (x1 : Int32) (x2 : Int32) (x3 : Int32) (x4 : Int32) (q : MS), RepM ad m h s → r9 s x1 x2 x3 x4 = some q → ∃ h2, m9 h m x1 x2 x3 x4 = some h2 ∧ RepM ad m h2 q) : ∀ (h : hH) (s : MS) (x1 : Int32) (x2 : Int32) (x3 : Int32) (x4 : Int32) (x5 : Int32) (q : MS), RepM ad m h s → N_Mo_sum_64 F r9 s x1 x2 x3 x4 x5 = some q → ∃ h2, M_Mo_sum_64 F m9 h m x1 x2 x3 x4 x5 m = some h2 ∧ RepM ad m h2 q := by
  intro h s x1 x2 x3 x4 x5 q R hN
  unfold N_Mo_sum_64 at hN
  unfold M_Mo_sum_64
  exact n_Mo_sum_65 P9 _ _ _ _ _ _ _ _ _ R hN
set_option maxHeartbeats 1000000 in
set_option maxRecDepth 100000 in
theorem n_Mo_sum_60 {ad : Nat → Nat} {m F : Nat} {m9 : hH → Nat → Int32 → Int32 → Int32 → Int32 → Option hH} {r9 : MS → Int32 → Int32 → Int32 → Int32 → Option MS} (P9 : ∀ (h : hH) (s : MS) (x1 : Int32) (x2 : Int32) (x3 : Int32) (x4 : Int32) (q : MS), RepM ad m h s → r9 s x1 x2 x3 x4 = some q → ∃ h2, m9 h m x1 x2 x3 x4 = some h2 ∧ RepM ad m h2 q) : ∀ (h : hH) (s : MS) (x1 : Int32) (x2 : Int32) (x3 : Int32) (x4 : Int32) (x5 : Int32) (q : MS), RepM ad m h s → N_Mo_sum_60 F r9 s x1 x2 x3 x4 x5 = some q → ∃ h2, M_Mo_sum_60 F m9 h m x1 x2 x3 x4 x5 m = some h2 ∧ RepM ad m h2 q := by
  intro h s x1 x2 x3 x4 x5 q R hN
  unfold N_Mo_sum_60 at hN
  unfold M_Mo_sum_60
  exact n_Mo_sum_65 P9 _ _ _ _ _ _ _ _ _ R hN
set_option maxHeartbeats 1000000 in
set_option maxRecDepth 100000 in
theorem bn_Mo_sum_9 {ad : Nat → Nat} {m F : Nat} {m9 : hH → Nat → Int32 → Int32 → Int32 → Int32 → Option hH} {r9 : MS → Int32 → Int32 → Int32 → Int32 → Option MS} (P9 : ∀ (h : hH) (s : MS) (x1 : Int32) (x2 : Int32) (x3 : Int32) (x4 : Int32) (q : MS), RepM ad m h s → r9 s x1 x2 x3 x4 = some q → ∃ h2, m9 h m x1 x2 x3 x4 = some h2 ∧ RepM ad m h2 q) : ∀ (h : hH) (s : MS) (x1 : Int32) (x2 : Int32) (x3 : Int32) (x4 : Int32) (q : MS), RepM ad m h s → BN_Mo_sum_9 F r9 s x1 x2 x3 x4 = some q → ∃ h2, B_Mo_sum_9 F m9 h m x1 x2 x3 x4 = some h2 ∧ RepM ad m h2 q := by
  intro h s x1 x2 x3 x4 q R hN
  unfold BN_Mo_sum_9 at hN
  unfold B_Mo_sum_9
  refine ev_if (fun c1 => ?_) (fun c1 => ?_)
  · have hN := hif_t hN c1
    exact n_Mo_sum_468 _ _ _ _ _ R hN
  · have hN := hif_f hN c1
    refine ev_b (rGetI R (k := 24) rfl) ?_
    refine ev_if (fun c2 => ?_) (fun c2 => ?_)
    · have hN := hif_t hN c2
      exact n_Mo_sum_468 _ _ _ _ _ R hN
    · have hN := hif_f hN c2
      obtain ⟨q3, eq3, hN⟩ := hb_some hN
      refine ev_b (rIs R) ?_
      obtain ⟨h4, eh4, R⟩ := n_Mo_now R eq3
      refine ev_b eh4 ?_
      refine ev_if (fun c5 => ?_) (fun c5 => ?_)
      · have hN := hif_t hN c5
        exact n_Mo_sum_64 P9 _ _ _ _ _ _ _ _ R hN
      · have hN := hif_f hN c5
        refine ev_if (fun c6 => ?_) (fun c6 => ?_)
        · have hN := hif_t hN c6
          exact n_Mo_sum_60 P9 _ _ _ _ _ _ _ _ R hN
        · have hN := hif_f hN c6
          refine ev_if (fun c7 => ?_) (fun c7 => ?_)
          · have hN := hif_t hN c7
            exact n_Mo_sum_60 P9 _ _ _ _ _ _ _ _ R hN
          · have hN := hif_f hN c7
            refine ev_if (fun c8 => ?_) (fun c8 => ?_)
            · have hN := hif_t hN c8
              exact n_Mo_sum_60 P9 _ _ _ _ _ _ _ _ R hN
            · have hN := hif_f hN c8
              refine ev_if (fun c9 => ?_) (fun c9 => ?_)
              · have hN := hif_t hN c9
                exact n_Mo_sum_60 P9 _ _ _ _ _ _ _ _ R hN
              · have hN := hif_f hN c9
                exact n_Mo_sum_64 P9 _ _ _ _ _ _ _ _ R hN
theorem n_Mo_sum_9 {ad : Nat → Nat} {m F : Nat} : ∀ z : Nat, ∀ (h : hH) (s : MS) (x1 : Int32) (x2 : Int32) (x3 : Int32) (x4 : Int32) (q : MS), RepM ad m h s → N_Mo_sum_9 F z s x1 x2 x3 x4 = some q → ∃ h2, M_Mo_sum_9 F z h m x1 x2 x3 x4 = some h2 ∧ RepM ad m h2 q := by
  intro z
  induction z with
  | zero => intro h s x1 x2 x3 x4 q R hN; exact absurd (show (none : Option _) = some q from hN) (fun t => by cases t)
  | succ z ih => exact bn_Mo_sum_9 ih
set_option maxHeartbeats 1000000 in
set_option maxRecDepth 100000 in
theorem n_Mo_sum {ad : Nat → Nat} {m F : Nat} {h : hH} {s : MS} {q : MS} (R : RepM ad m h s) (hN : N_Mo_sum F s = some q) : ∃ h2, M_Mo_sum F h m = some h2 ∧ RepM ad m h2 q := by
  unfold N_Mo_sum at hN
  unfold M_Mo_sum
  exact n_Mo_sum_9 F _ _ _ _ _ _ _ R hN
