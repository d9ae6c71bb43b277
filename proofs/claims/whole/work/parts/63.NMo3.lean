def N_Mo_conditions_116 (F : Nat) (r2 : MS → Int32 → Option MS) (s : MS) (x1 : Int32) (s1 : Int32) (s2 : Int32) : Option MS :=
  (some (sPut s 23 (s1 + s2))).bind fun y1 =>
  r2 y1 x1
def N_Mo_conditions_101 (F : Nat) (r2 : MS → Int32 → Option MS) (s : MS) (s0 : Int32) : Option MS :=
  if s0 = 0 then (
    N_Mo_conditions_116 F r2 s s0 (s.1 23) 0
  ) else (
    N_Mo_conditions_116 F r2 s s0 (s.1 23) 1
  )
def N_Mo_conditions_100 (F : Nat) (r2 : MS → Int32 → Option MS) (s : MS) : Option MS :=
  N_Mo_conditions_101 F r2 s 0
def N_Mo_conditions_80 (F : Nat) (r2 : MS → Int32 → Option MS) (s : MS) : Option MS :=
  if 0 ≤ (s.1 24) then (
    N_Mo_conditions_100 F r2 s
  ) else (
    (N_Mo_now F s).bind fun q2 =>
    if q2.1 = (-5) then (
      N_Mo_conditions_101 F r2 q2.2 1
    ) else (
      N_Mo_conditions_100 F r2 q2.2
    )
  )
def N_Mo_conditions_47 (F : Nat) (r2 : MS → Int32 → Option MS) (s : MS) (x2 : Int32) (s1 : Int32) : Option MS :=
  (N_Mo_want F s s1).bind fun q1 =>
  if q1.1 = 0 then (
    N_Mo_conditions_80 F r2 q1.2
  ) else (
    (some (sPut q1.2 23 ((q1.2.1 23) + 1))).bind fun y4 =>
    (N_Mo_sum F y4).bind fun q6 =>
    if 0 ≤ (q6.1 24) then (
      N_Mo_conditions_80 F r2 q6
    ) else (
      (N_Mo_put F q6 x2 0).bind fun q9 =>
      N_Mo_conditions_80 F r2 q9
    )
  )
def N_Mo_conditions_46 (F : Nat) (r2 : MS → Int32 → Option MS) (s : MS) (x2 : Int32) : Option MS :=
  N_Mo_conditions_47 F r2 s x2 0
def BN_Mo_conditions_2 (F : Nat) (r2 : MS → Int32 → Option MS) (s : MS) (x1 : Int32) : Option MS :=
  if x1 = 0 then (
    some s
  ) else (
    if 0 ≤ (s.1 24) then (
      some s
    ) else (
      (N_Mo_sum F s).bind fun q3 =>
      (N_Mo_now F q3).bind fun q5 =>
      if 0 ≤ (q5.2.1 24) then (
        N_Mo_conditions_80 F r2 q5.2
      ) else (
        if (-15) < q5.1 then (
          N_Mo_conditions_46 F r2 q5.2 q5.1
        ) else (
          if q5.1 < (-18) then (
            N_Mo_conditions_46 F r2 q5.2 q5.1
          ) else (
            N_Mo_conditions_47 F r2 q5.2 q5.1 1
          )
        )
      )
    )
  )
def N_Mo_conditions_2 (F : Nat) : Nat → MS → Int32 → Option MS
  | 0 => fun _ _ => none
  | z + 1 => BN_Mo_conditions_2 F (N_Mo_conditions_2 F z)
def N_Mo_conditions (F : Nat) (s : MS) : Option MS :=
  N_Mo_conditions_2 F F s 1
def N_Mo_rule_135 (F : Nat) (s : MS) (x1 : Int32) : Option MS :=
  if 0 ≤ (s.1 24) then (
    some s
  ) else (
    (N_Mo_needs F s (-19)).bind fun q2 =>
    if q2.1 = 0 then (
      some q2.2
    ) else (
      if x1 < 0 ∨ 72 ≤ x1.toNatClampNeg then none else
      (some (sStI q2.2 16 x1.toNatClampNeg (q2.2.1 21))).bind fun y6 =>
      if x1 < 0 ∨ 72 ≤ x1.toNatClampNeg then none else
      (some (sStI y6 18 x1.toNatClampNeg ((y6.1 23) - 2))).bind fun y9 =>
      if (y9.1 22) < 0 ∨ 6 ≤ (y9.1 22).toNatClampNeg then none else
      if (y9.1 22) < 0 ∨ 6 ≤ (y9.1 22).toNatClampNeg then none else
      (some (sStI y9 13 (y9.1 22).toNatClampNeg ((y9.2.1 13 (y9.1 22).toNatClampNeg) + 1))).bind fun y13 =>
      some y13
    )
  )
def N_Mo_rule_59 (F : Nat) (s : MS) (x1 : Int32) (s0 : Int32) : Option MS :=
  if x1 < 0 ∨ 72 ≤ x1.toNatClampNeg then none else
  (some (sStI s 14 x1.toNatClampNeg (s.1 21))).bind fun y2 =>
  if x1 < 0 ∨ 72 ≤ x1.toNatClampNeg then none else
  (some (sStI y2 15 x1.toNatClampNeg (-1))).bind fun y5 =>
  if x1 < 0 ∨ 72 ≤ x1.toNatClampNeg then none else
  (some (sStI y5 17 x1.toNatClampNeg (y5.1 23))).bind fun y8 =>
  (some (sPut y8 23 ((y8.1 23) + 1))).bind fun y10 =>
  (N_Mo_conditions F y10).bind fun q12 =>
  if 0 ≤ (q12.1 24) then (
    N_Mo_rule_135 F q12 x1
  ) else (
    if s0 = 0 then (
      N_Mo_rule_135 F q12 x1
    ) else (
      (N_Mo_needs F q12 (-4)).bind fun q16 =>
      if q16.1 = 0 then (
        N_Mo_rule_135 F q16.2 x1
      ) else (
        if x1 < 0 ∨ 72 ≤ x1.toNatClampNeg then none else
        (some (sStI q16.2 15 x1.toNatClampNeg (q16.2.1 21))).bind fun y20 =>
        (N_Mo_conditions F y20).bind fun q22 =>
        N_Mo_rule_135 F q22 x1
      )
    )
  )
def N_Mo_rule_38 (F : Nat) (s : MS) (x1 : Int32) (s1 : Int32) : Option MS :=
  (N_Mo_want F s s1).bind fun q1 =>
  if q1.1 = 0 then (
    some q1.2
  ) else (
    (N_Mo_now F q1.2).bind fun q4 =>
    if q4.1 = (-3) then (
      N_Mo_rule_59 F q4.2 x1 1
    ) else (
      N_Mo_rule_59 F q4.2 x1 0
    )
  )
def N_Mo_rule (F : Nat) (s : MS) : Option MS :=
  if (s.1 22) < 0 ∨ 6 ≤ (s.1 22).toNatClampNeg then none else
  if (s.1 22) < 0 ∨ 6 ≤ (s.1 22).toNatClampNeg then none else
  if 12 ≤ (s.2.1 13 (s.1 22).toNatClampNeg) then (
    N_Mo_rule_38 F s ((12 * (s.1 22)) + (s.2.1 13 (s.1 22).toNatClampNeg)) 0
  ) else (
    N_Mo_rule_38 F s ((12 * (s.1 22)) + (s.2.1 13 (s.1 22).toNatClampNeg)) 1
  )
def N_Mo_read_188 (F : Nat) (s : MS) (x1 : Int32) : Option (Int32 × MS) :=
  if (s.1 24) < 0 then (
    if (s.1 22) < 0 ∨ 6 ≤ (s.1 22).toNatClampNeg then none else
    (some (sStI s 4 (s.1 22).toNatClampNeg x1)).bind fun y3 =>
    (some (sPut y3 3 ((y3.1 3) + 1))).bind fun y5 =>
    if (y5.1 22) < 0 ∨ 6 ≤ (y5.1 22).toNatClampNeg then none else
    some (y5.2.1 13 (y5.1 22).toNatClampNeg, y5)
  ) else (
    some ((-1) - (s.1 24), s)
  )
def N_Mo_read_175 (F : Nat) (r113 : MS → Int32 → Option (Int32 × MS)) (s : MS) (x1 : Int32) (s1 : Int32) : Option (Int32 × MS) :=
  (N_Mo_want F s s1).bind fun q1 =>
  if q1.1 = 0 then (
    r113 q1.2 x1
  ) else (
    (N_Mo_rule F q1.2).bind fun q4 =>
    r113 q4 x1
  )
def N_Mo_read_170 (F : Nat) (r113 : MS → Int32 → Option (Int32 × MS)) (s : MS) (x1 : Int32) : Option (Int32 × MS) :=
  N_Mo_read_175 F r113 s x1 1
def BN_Mo_read_113 (F : Nat) (r113 : MS → Int32 → Option (Int32 × MS)) (s : MS) (x1 : Int32) : Option (Int32 × MS) :=
  if 0 ≤ (s.1 24) then (
    N_Mo_read_188 F s x1
  ) else (
    if (s.1 22) < 0 ∨ 6 ≤ (s.1 22).toNatClampNeg then none else
    if (s.2.1 9 (s.1 22).toNatClampNeg) ≤ (s.1 23) then (
      N_Mo_read_188 F s x1
    ) else (
      (N_Mo_now F s).bind fun q4 =>
      if q4.1 = (-1) then (
        (N_Mo_tableP F q4.2).bind fun q13 =>
        r113 q13 x1
      ) else (
        (N_Mo_now F q4.2).bind fun q7 =>
        if q7.1 = (-2) then (
          N_Mo_read_170 F r113 q7.2 x1
        ) else (
          (N_Mo_now F q7.2).bind fun q10 =>
          if q10.1 = (-3) then (
            N_Mo_read_170 F r113 q10.2 x1
          ) else (
            N_Mo_read_175 F r113 q10.2 x1 0
          )
        )
      )
    )
  )
def N_Mo_read_113 (F : Nat) : Nat → MS → Int32 → Option (Int32 × MS)
  | 0 => fun _ _ => none
  | z + 1 => BN_Mo_read_113 F (N_Mo_read_113 F z)
def N_Mo_read_61 (F : Nat) (s : MS) (x1 : Int32) : Option (Int32 × MS) :=
  (some (sPut s 22 (s.1 3))).bind fun y1 =>
  (N_Mo_split F y1).bind fun q3 =>
  (some (sPut q3 2 0)).bind fun y5 =>
  (some (sPut y5 23 0)).bind fun y7 =>
  (some (sPut y7 24 (-1))).bind fun y9 =>
  (some (sPut y9 21 0)).bind fun y11 =>
  if (y11.1 22) < 0 ∨ 6 ≤ (y11.1 22).toNatClampNeg then none else
  (some (sStI y11 10 (y11.1 22).toNatClampNeg 0)).bind fun y14 =>
  if (y14.1 22) < 0 ∨ 6 ≤ (y14.1 22).toNatClampNeg then none else
  (some (sStI y14 13 (y14.1 22).toNatClampNeg 0)).bind fun y17 =>
  N_Mo_read_113 F F y17 x1
def N_Mo_read_53 (F : Nat) (s : MS) (x1 : Int32) (s0 : Int32) (s2 : Int32) : Option (Int32 × MS) :=
  if s2 < 0 ∨ 6 ≤ s2.toNatClampNeg then none else
  if (s.2.1 4 s2.toNatClampNeg) < s0 then (
    N_Mo_read_61 F s x1
  ) else (
    some ((-1000), s)
  )
def N_Mo_read (F : Nat) (s : MS) (x1 : Int32) : Option (Int32 × MS) :=
  (some (sPut s 0 0)).bind fun y1 =>
  if x1 < 0 then (
    some ((-1000), y1)
  ) else (
    if 100000 < x1 then (
      some ((-1000), y1)
    ) else (
      if (y1.1 3) = 6 then (
        some ((-1000), y1)
      ) else (
        if (y1.1 3) ≤ 0 then (
          N_Mo_read_61 F y1 x1
        ) else (
          if (y1.1 3) ≤ 0 then (
            N_Mo_read_53 F y1 x1 x1 0
          ) else (
            N_Mo_read_53 F y1 x1 x1 ((y1.1 3) - 1)
          )
        )
      )
    )
  )
def N_Mo_editions (F : Nat) (s : MS) : Option (Int32 × MS) :=
  (some (sPut s 0 0)).bind fun y1 =>
  some (y1.1 3, y1)
def N_Mo_fact (F : Nat) (s : MS) (x1 : Int32) (x2 : Int64) : Option (Int32 × MS) :=
  (some (sPut s 0 0)).bind fun y1 =>
  if x1 < 0 then (
    some (0, y1)
  ) else (
    if x1 ≤ 19 then (
      if x1 < 0 ∨ 20 ≤ x1.toNatClampNeg then none else
      (some (sStL y1 27 x1.toNatClampNeg x2)).bind fun y6 =>
      if x1 < 0 ∨ 20 ≤ x1.toNatClampNeg then none else
      (some (sStI y6 28 x1.toNatClampNeg (1 &&& 1))).bind fun y9 =>
      some (1, y9)
    ) else (
      some (0, y1)
    )
  )
def N_Mo_clearFacts_30 (F : Nat) (r9 : MS → Int32 → Int32 → Option (Int32 × MS)) (s : MS) (x2 : Int32) (s0 : Int32) (s1 : Int32) : Option (Int32 × MS) :=
  if x2 < 0 ∨ 20 ≤ x2.toNatClampNeg then none else
  (some (sStI s 28 x2.toNatClampNeg (0 &&& 1))).bind fun y2 =>
  r9 y2 (s0 + s1) (x2 + 1)
def BN_Mo_clearFacts_9 (F : Nat) (r9 : MS → Int32 → Int32 → Option (Int32 × MS)) (s : MS) (x1 : Int32) (x2 : Int32) : Option (Int32 × MS) :=
  if 20 ≤ x2 then (
    some (x1, s)
  ) else (
    if x2 < 0 ∨ 20 ≤ x2.toNatClampNeg then none else
    if (s.2.1 28 x2.toNatClampNeg) = 0 then (
      N_Mo_clearFacts_30 F r9 s x2 x1 0
    ) else (
      N_Mo_clearFacts_30 F r9 s x2 x1 1
    )
  )
def N_Mo_clearFacts_9 (F : Nat) : Nat → MS → Int32 → Int32 → Option (Int32 × MS)
  | 0 => fun _ _ _ => none
  | z + 1 => BN_Mo_clearFacts_9 F (N_Mo_clearFacts_9 F z)
def N_Mo_clearFacts (F : Nat) (s : MS) : Option (Int32 × MS) :=
  (some (sPut s 0 0)).bind fun y1 =>
  N_Mo_clearFacts_9 F F y1 0 0
def N_Mo_editionOf_27 (F : Nat) (r4 : MS → Int32 → Int32 → Int32 → Option (Int32 × MS)) (s : MS) (x1 : Int32) (x3 : Int32) (s0 : Int32) : Option (Int32 × MS) :=
  r4 s x1 s0 (x3 + 1)
def BN_Mo_editionOf_4 (F : Nat) (r4 : MS → Int32 → Int32 → Int32 → Option (Int32 × MS)) (s : MS) (x1 : Int32) (x2 : Int32) (x3 : Int32) : Option (Int32 × MS) :=
  if (s.1 3) ≤ x3 then (
    some (x2, s)
  ) else (
    if x3 < 0 ∨ 6 ≤ x3.toNatClampNeg then none else
    if x1 < (s.2.1 4 x3.toNatClampNeg) then (
      N_Mo_editionOf_27 F r4 s x1 x3 x2
    ) else (
      N_Mo_editionOf_27 F r4 s x1 x3 x3
    )
  )
def N_Mo_editionOf_4 (F : Nat) : Nat → MS → Int32 → Int32 → Int32 → Option (Int32 × MS)
  | 0 => fun _ _ _ _ => none
  | z + 1 => BN_Mo_editionOf_4 F (N_Mo_editionOf_4 F z)
def N_Mo_editionOf (F : Nat) (s : MS) (x1 : Int32) : Option (Int32 × MS) :=
  N_Mo_editionOf_4 F F s x1 (-1) 0
set_option maxHeartbeats 1000000 in
set_option maxRecDepth 100000 in
theorem n_Mo_conditions_116 {ad : Nat → Nat} {m F : Nat} {m2 : hH → Nat → Int32 → Option hH} {r2 : MS → Int32 → Option MS} (P2 : ∀ (h : hH) (s : MS) (x1 : Int32) (q : MS), RepM ad m h s → r2 s x1 = some q → ∃ h2, m2 h m x1 = some h2 ∧ RepM ad m h2 q) : ∀ (h : hH) (s : MS) (x1 : Int32) (s1 : Int32) (s2 : Int32) (q : MS), RepM ad m h s → N_Mo_conditions_116 F r2 s x1 s1 s2 = some q → ∃ h2, M_Mo_conditions_116 F m2 h m x1 m s1 s2 = some h2 ∧ RepM ad m h2 q := by
  intro h s x1 s1 s2 q R hN
  unfold N_Mo_conditions_116 at hN
  unfold M_Mo_conditions_116
  obtain ⟨y1, ey1, hN⟩ := hb_some hN
  obtain ⟨h2, eh2, R⟩ := rPut R (k := 23) (v := s1 + s2) rfl
  rw [Option.some.inj ey1] at R
  refine ev_b eh2 ?_
  exact P2 _ _ _ _ R hN
set_option maxHeartbeats 1000000 in
set_option maxRecDepth 100000 in
theorem n_Mo_conditions_101 {ad : Nat → Nat} {m F : Nat} {m2 : hH → Nat → Int32 → Option hH} {r2 : MS → Int32 → Option MS} (P2 : ∀ (h : hH) (s : MS) (x1 : Int32) (q : MS), RepM ad m h s → r2 s x1 = some q → ∃ h2, m2 h m x1 = some h2 ∧ RepM ad m h2 q) : ∀ (h : hH) (s : MS) (s0 : Int32) (q : MS), RepM ad m h s → N_Mo_conditions_101 F r2 s s0 = some q → ∃ h2, M_Mo_conditions_101 F m2 h m s0 = some h2 ∧ RepM ad m h2 q := by
  intro h s s0 q R hN
  unfold N_Mo_conditions_101 at hN
  unfold M_Mo_conditions_101
  refine ev_b (rGetI R (k := 23) rfl) ?_
  refine ev_if (fun c1 => ?_) (fun c1 => ?_)
  · have hN := hif_t hN c1
    exact n_Mo_conditions_116 P2 _ _ _ _ _ _ R hN
  · have hN := hif_f hN c1
    exact n_Mo_conditions_116 P2 _ _ _ _ _ _ R hN
set_option maxHeartbeats 1000000 in
set_option maxRecDepth 100000 in
theorem n_Mo_conditions_100 {ad : Nat → Nat} {m F : Nat} {m2 : hH → Nat → Int32 → Option hH} {r2 : MS → Int32 → Option MS} (P2 : ∀ (h : hH) (s : MS) (x1 : Int32) (q : MS), RepM ad m h s → r2 s x1 = some q → ∃ h2, m2 h m x1 = some h2 ∧ RepM ad m h2 q) : ∀ (h : hH) (s : MS) (q : MS), RepM ad m h s → N_Mo_conditions_100 F r2 s = some q → ∃ h2, M_Mo_conditions_100 F m2 h m = some h2 ∧ RepM ad m h2 q := by
  intro h s q R hN
  unfold N_Mo_conditions_100 at hN
  unfold M_Mo_conditions_100
  exact n_Mo_conditions_101 P2 _ _ _ _ R hN
set_option maxHeartbeats 1000000 in
set_option maxRecDepth 100000 in
theorem n_Mo_conditions_80 {ad : Nat → Nat} {m F : Nat} {m2 : hH → Nat → Int32 → Option hH} {r2 : MS → Int32 → Option MS} (P2 : ∀ (h : hH) (s : MS) (x1 : Int32) (q : MS), RepM ad m h s → r2 s x1 = some q → ∃ h2, m2 h m x1 = some h2 ∧ RepM ad m h2 q) : ∀ (h : hH) (s : MS) (q : MS), RepM ad m h s → N_Mo_conditions_80 F r2 s = some q → ∃ h2, M_Mo_conditions_80 F m2 h m = some h2 ∧ RepM ad m h2 q := by
  intro h s q R hN
  unfold N_Mo_conditions_80 at hN
  unfold M_Mo_conditions_80
  refine ev_b (rGetI R (k := 24) rfl) ?_
  refine ev_if (fun c1 => ?_) (fun c1 => ?_)
  · have hN := hif_t hN c1
    exact n_Mo_conditions_100 P2 _ _ _ R hN
  · have hN := hif_f hN c1
    obtain ⟨q2, eq2, hN⟩ := hb_some hN
    refine ev_b (rIs R) ?_
    obtain ⟨h3, eh3, R⟩ := n_Mo_now R eq2
    refine ev_b eh3 ?_
    refine ev_if (fun c4 => ?_) (fun c4 => ?_)
    · have hN := hif_t hN c4
      exact n_Mo_conditions_101 P2 _ _ _ _ R hN
    · have hN := hif_f hN c4
      exact n_Mo_conditions_100 P2 _ _ _ R hN
set_option maxHeartbeats 1000000 in
set_option maxRecDepth 100000 in
theorem n_Mo_conditions_47 {ad : Nat → Nat} {m F : Nat} {m2 : hH → Nat → Int32 → Option hH} {r2 : MS → Int32 → Option MS} (P2 : ∀ (h : hH) (s : MS) (x1 : Int32) (q : MS), RepM ad m h s → r2 s x1 = some q → ∃ h2, m2 h m x1 = some h2 ∧ RepM ad m h2 q) : ∀ (h : hH) (s : MS) (x2 : Int32) (s1 : Int32) (q : MS), RepM ad m h s → N_Mo_conditions_47 F r2 s x2 s1 = some q → ∃ h2, M_Mo_conditions_47 F m2 h m x2 m s1 = some h2 ∧ RepM ad m h2 q := by
  intro h s x2 s1 q R hN
  unfold N_Mo_conditions_47 at hN
  unfold M_Mo_conditions_47
  obtain ⟨q1, eq1, hN⟩ := hb_some hN
  refine ev_b (rIs R) ?_
  obtain ⟨h2, eh2, R⟩ := n_Mo_want R eq1
  refine ev_b eh2 ?_
  refine ev_if (fun c3 => ?_) (fun c3 => ?_)
  · have hN := hif_t hN c3
    exact n_Mo_conditions_80 P2 _ _ _ R hN
  · have hN := hif_f hN c3
    refine ev_b (rGetI R (k := 23) rfl) ?_
    obtain ⟨y4, ey4, hN⟩ := hb_some hN
    obtain ⟨h5, eh5, R⟩ := rPut R (k := 23) (v := (q1.2.1 23) + 1) rfl
    rw [Option.some.inj ey4] at R
    refine ev_b eh5 ?_
    obtain ⟨q6, eq6, hN⟩ := hb_some hN
    refine ev_b (rIs R) ?_
    obtain ⟨h7, eh7, R⟩ := n_Mo_sum R eq6
    refine ev_b eh7 ?_
    refine ev_b (rGetI R (k := 24) rfl) ?_
    refine ev_if (fun c8 => ?_) (fun c8 => ?_)
    · have hN := hif_t hN c8
      exact n_Mo_conditions_80 P2 _ _ _ R hN
    · have hN := hif_f hN c8
      obtain ⟨q9, eq9, hN⟩ := hb_some hN
      refine ev_b (rIs R) ?_
      obtain ⟨h10, eh10, R⟩ := n_Mo_put R eq9
      refine ev_b eh10 ?_
      exact n_Mo_conditions_80 P2 _ _ _ R hN
set_option maxHeartbeats 1000000 in
set_option maxRecDepth 100000 in
theorem n_Mo_conditions_46 {ad : Nat → Nat} {m F : Nat} {m2 : hH → Nat → Int32 → Option hH} {r2 : MS → Int32 → Option MS} (P2 : ∀ (h : hH) (s : MS) (x1 : Int32) (q : MS), RepM ad m h s → r2 s x1 = some q → ∃ h2, m2 h m x1 = some h2 ∧ RepM ad m h2 q) : ∀ (h : hH) (s : MS) (x2 : Int32) (q : MS), RepM ad m h s → N_Mo_conditions_46 F r2 s x2 = some q → ∃ h2, M_Mo_conditions_46 F m2 h m x2 m = some h2 ∧ RepM ad m h2 q := by
  intro h s x2 q R hN
  unfold N_Mo_conditions_46 at hN
  unfold M_Mo_conditions_46
  exact n_Mo_conditions_47 P2 _ _ _ _ _ R hN
set_option maxHeartbeats 1000000 in
set_option maxRecDepth 100000 in
theorem bn_Mo_conditions_2 {ad : Nat → Nat} {m F : Nat} {m2 : hH → Nat → Int32 → Option hH} {r2 : MS → Int32 → Option MS} (P2 : ∀ (h : hH) (s : MS) (x1 : Int32) (q : MS), RepM ad m h s → r2 s x1 = some q → ∃ h2, m2 h m x1 = some h2 ∧ RepM ad m h2 q) : ∀ (h : hH) (s : MS) (x1 : Int32) (q : MS), RepM ad m h s → BN_Mo_conditions_2 F r2 s x1 = some q → ∃ h2, B_Mo_conditions_2 F m2 h m x1 = some h2 ∧ RepM ad m h2 q := by
  intro h s x1 q R hN
  unfold BN_Mo_conditions_2 at hN
  unfold B_Mo_conditions_2
  refine ev_if (fun c1 => ?_) (fun c1 => ?_)
  · have hN := hif_t hN c1
    obtain rfl := Option.some.inj hN
    exact ⟨_, rfl, R⟩
  · have hN := hif_f hN c1
    refine ev_b (rGetI R (k := 24) rfl) ?_
    refine ev_if (fun c2 => ?_) (fun c2 => ?_)
    · have hN := hif_t hN c2
      obtain rfl := Option.some.inj hN
      exact ⟨_, rfl, R⟩
    · have hN := hif_f hN c2
      obtain ⟨q3, eq3, hN⟩ := hb_some hN
      refine ev_b (rIs R) ?_
      obtain ⟨h4, eh4, R⟩ := n_Mo_sum R eq3
      refine ev_b eh4 ?_
      obtain ⟨q5, eq5, hN⟩ := hb_some hN
      refine ev_b (rIs R) ?_
      obtain ⟨h6, eh6, R⟩ := n_Mo_now R eq5
      refine ev_b eh6 ?_
      refine ev_b (rGetI R (k := 24) rfl) ?_
      refine ev_if (fun c7 => ?_) (fun c7 => ?_)
      · have hN := hif_t hN c7
        exact n_Mo_conditions_80 P2 _ _ _ R hN
      · have hN := hif_f hN c7
        refine ev_if (fun c8 => ?_) (fun c8 => ?_)
        · have hN := hif_t hN c8
          exact n_Mo_conditions_46 P2 _ _ _ _ R hN
        · have hN := hif_f hN c8
          refine ev_if (fun c9 => ?_) (fun c9 => ?_)
          · have hN := hif_t hN c9
            exact n_Mo_conditions_46 P2 _ _ _ _ R hN
          · have hN := hif_f hN c9
            exact n_Mo_conditions_47 P2 _ _ _ _ _ R hN
theorem n_Mo_conditions_2 {ad : Nat → Nat} {m F : Nat} : ∀ z : Nat, ∀ (h : hH) (s : MS) (x1 : Int32) (q : MS), RepM ad m h s → N_Mo_conditions_2 F z s x1 = some q → ∃ h2, M_Mo_conditions_2 F z h m x1 = some h2 ∧ RepM ad m h2 q := by
  intro z
  induction z with
  | zero => intro h s x1 q R hN; exact absurd (show (none : Option _) = some q from hN) (fun t => by cases t)
  | succ z ih => exact bn_Mo_conditions_2 ih
set_option maxHeartbeats 1000000 in
set_option maxRecDepth 100000 in
theorem n_Mo_conditions {ad : Nat → Nat} {m F : Nat} {h : hH} {s : MS} {q : MS} (R : RepM ad m h s) (hN : N_Mo_conditions F s = some q) : ∃ h2, M_Mo_conditions F h m = some h2 ∧ RepM ad m h2 q := by
  unfold N_Mo_conditions at hN
  unfold M_Mo_conditions
  exact n_Mo_conditions_2 F _ _ _ _ R hN
set_option maxHeartbeats 1000000 in
set_option maxRecDepth 100000 in
theorem n_Mo_rule_135 {ad : Nat → Nat} {m F : Nat} : ∀ (h : hH) (s : MS) (x1 : Int32) (q : MS), RepM ad m h s → N_Mo_rule_135 F s x1 = some q → ∃ h2, M_Mo_rule_135 F h m x1 = some h2 ∧ RepM ad m h2 q := by
  intro h s x1 q R hN
  unfold N_Mo_rule_135 at hN
  unfold M_Mo_rule_135
  refine ev_b (rGetI R (k := 24) rfl) ?_
  refine ev_if (fun c1 => ?_) (fun c1 => ?_)
  · have hN := hif_t hN c1
    obtain rfl := Option.some.inj hN
    exact ⟨_, rfl, R⟩
  · have hN := hif_f hN c1
    obtain ⟨q2, eq2, hN⟩ := hb_some hN
    refine ev_b (rIs R) ?_
    obtain ⟨h3, eh3, R⟩ := n_Mo_needs R eq2
    refine ev_b eh3 ?_
    refine ev_if (fun c4 => ?_) (fun c4 => ?_)
    · have hN := hif_t hN c4
      obtain rfl := Option.some.inj hN
      exact ⟨_, rfl, R⟩
    · have hN := hif_f hN c4
      refine ev_b (rGetA R (k := 16) rfl) ?_
      refine ev_b (rGetI R (k := 21) rfl) ?_
      obtain ⟨c5, hN⟩ := hnz hN
      obtain ⟨y6, ey6, hN⟩ := hb_some hN
      obtain ⟨h7, eh7, R⟩ := rStI R (k := 16) (x := q2.2.1 21) rfl c5
      rw [Option.some.inj ey6] at R
      refine ev_b eh7 ?_
      refine ev_b (rGetA R (k := 18) rfl) ?_
      refine ev_b (rGetI R (k := 23) rfl) ?_
      obtain ⟨c8, hN⟩ := hnz hN
      obtain ⟨y9, ey9, hN⟩ := hb_some hN
      obtain ⟨h10, eh10, R⟩ := rStI R (k := 18) (x := (y6.1 23) - 2) rfl c8
      rw [Option.some.inj ey9] at R
      refine ev_b eh10 ?_
      refine ev_b (rGetA R (k := 13) rfl) ?_
      refine ev_b (rGetI R (k := 22) rfl) ?_
      obtain ⟨c11, hN⟩ := hnz hN
      refine ev_b (rLdI R (k := 13) rfl c11) ?_
      obtain ⟨c12, hN⟩ := hnz hN
      obtain ⟨y13, ey13, hN⟩ := hb_some hN
      obtain ⟨h14, eh14, R⟩ := rStI R (k := 13) (x := (y9.2.1 13 (y9.1 22).toNatClampNeg) + 1) rfl c12
      rw [Option.some.inj ey13] at R
      refine ev_b eh14 ?_
      obtain rfl := Option.some.inj hN
      exact ⟨_, rfl, R⟩
set_option maxHeartbeats 1000000 in
set_option maxRecDepth 100000 in
theorem n_Mo_rule_59 {ad : Nat → Nat} {m F : Nat} : ∀ (h : hH) (s : MS) (x1 : Int32) (s0 : Int32) (q : MS), RepM ad m h s → N_Mo_rule_59 F s x1 s0 = some q → ∃ h2, M_Mo_rule_59 F h m x1 s0 = some h2 ∧ RepM ad m h2 q := by
  intro h s x1 s0 q R hN
  unfold N_Mo_rule_59 at hN
  unfold M_Mo_rule_59
  refine ev_b (rGetA R (k := 14) rfl) ?_
  refine ev_b (rGetI R (k := 21) rfl) ?_
  obtain ⟨c1, hN⟩ := hnz hN
  obtain ⟨y2, ey2, hN⟩ := hb_some hN
  obtain ⟨h3, eh3, R⟩ := rStI R (k := 14) (x := s.1 21) rfl c1
  rw [Option.some.inj ey2] at R
  refine ev_b eh3 ?_
  refine ev_b (rGetA R (k := 15) rfl) ?_
  obtain ⟨c4, hN⟩ := hnz hN
  obtain ⟨y5, ey5, hN⟩ := hb_some hN
  obtain ⟨h6, eh6, R⟩ := rStI R (k := 15) (x := (-1)) rfl c4
  rw [Option.some.inj ey5] at R
  refine ev_b eh6 ?_
  refine ev_b (rGetA R (k := 17) rfl) ?_
  refine ev_b (rGetI R (k := 23) rfl) ?_
  obtain ⟨c7, hN⟩ := hnz hN
  obtain ⟨y8, ey8, hN⟩ := hb_some hN
  obtain ⟨h9, eh9, R⟩ := rStI R (k := 17) (x := y5.1 23) rfl c7
  rw [Option.some.inj ey8] at R
  refine ev_b eh9 ?_
  refine ev_b (rGetI R (k := 23) rfl) ?_
  obtain ⟨y10, ey10, hN⟩ := hb_some hN
  obtain ⟨h11, eh11, R⟩ := rPut R (k := 23) (v := (y8.1 23) + 1) rfl
  rw [Option.some.inj ey10] at R
  refine ev_b eh11 ?_
  obtain ⟨q12, eq12, hN⟩ := hb_some hN
  refine ev_b (rIs R) ?_
  obtain ⟨h13, eh13, R⟩ := n_Mo_conditions R eq12
  refine ev_b eh13 ?_
  refine ev_b (rGetI R (k := 24) rfl) ?_
  refine ev_if (fun c14 => ?_) (fun c14 => ?_)
  · have hN := hif_t hN c14
    exact n_Mo_rule_135 _ _ _ _ R hN
  · have hN := hif_f hN c14
    refine ev_if (fun c15 => ?_) (fun c15 => ?_)
    · have hN := hif_t hN c15
      exact n_Mo_rule_135 _ _ _ _ R hN
    · have hN := hif_f hN c15
      obtain ⟨q16, eq16, hN⟩ := hb_some hN
      refine ev_b (rIs R) ?_
      obtain ⟨h17, eh17, R⟩ := n_Mo_needs R eq16
      refine ev_b eh17 ?_
      refine ev_if (fun c18 => ?_) (fun c18 => ?_)
      · have hN := hif_t hN c18
        exact n_Mo_rule_135 _ _ _ _ R hN
      · have hN := hif_f hN c18
        refine ev_b (rGetA R (k := 15) rfl) ?_
        refine ev_b (rGetI R (k := 21) rfl) ?_
        obtain ⟨c19, hN⟩ := hnz hN
        obtain ⟨y20, ey20, hN⟩ := hb_some hN
        obtain ⟨h21, eh21, R⟩ := rStI R (k := 15) (x := q16.2.1 21) rfl c19
        rw [Option.some.inj ey20] at R
        refine ev_b eh21 ?_
        obtain ⟨q22, eq22, hN⟩ := hb_some hN
        refine ev_b (rIs R) ?_
        obtain ⟨h23, eh23, R⟩ := n_Mo_conditions R eq22
        refine ev_b eh23 ?_
        exact n_Mo_rule_135 _ _ _ _ R hN
set_option maxHeartbeats 1000000 in
set_option maxRecDepth 100000 in
theorem n_Mo_rule_38 {ad : Nat → Nat} {m F : Nat} : ∀ (h : hH) (s : MS) (x1 : Int32) (s1 : Int32) (q : MS), RepM ad m h s → N_Mo_rule_38 F s x1 s1 = some q → ∃ h2, M_Mo_rule_38 F h m x1 m s1 = some h2 ∧ RepM ad m h2 q := by
  intro h s x1 s1 q R hN
  unfold N_Mo_rule_38 at hN
  unfold M_Mo_rule_38
  obtain ⟨q1, eq1, hN⟩ := hb_some hN
  refine ev_b (rIs R) ?_
  obtain ⟨h2, eh2, R⟩ := n_Mo_want R eq1
  refine ev_b eh2 ?_
  refine ev_if (fun c3 => ?_) (fun c3 => ?_)
  · have hN := hif_t hN c3
    obtain rfl := Option.some.inj hN
    exact ⟨_, rfl, R⟩
  · have hN := hif_f hN c3
    obtain ⟨q4, eq4, hN⟩ := hb_some hN
    refine ev_b (rIs R) ?_
    obtain ⟨h5, eh5, R⟩ := n_Mo_now R eq4
    refine ev_b eh5 ?_
    refine ev_if (fun c6 => ?_) (fun c6 => ?_)
    · have hN := hif_t hN c6
      exact n_Mo_rule_59 _ _ _ _ _ R hN
    · have hN := hif_f hN c6
      exact n_Mo_rule_59 _ _ _ _ _ R hN
set_option maxHeartbeats 1000000 in
set_option maxRecDepth 100000 in
theorem n_Mo_rule {ad : Nat → Nat} {m F : Nat} {h : hH} {s : MS} {q : MS} (R : RepM ad m h s) (hN : N_Mo_rule F s = some q) : ∃ h2, M_Mo_rule F h m = some h2 ∧ RepM ad m h2 q := by
  unfold N_Mo_rule at hN
  unfold M_Mo_rule
  refine ev_b (rGetI R (k := 22) rfl) ?_
  refine ev_b (rGetA R (k := 13) rfl) ?_
  refine ev_b (rGetI R (k := 22) rfl) ?_
  obtain ⟨c1, hN⟩ := hnz hN
  refine ev_b (rLdI R (k := 13) rfl c1) ?_
  refine ev_b (rGetA R (k := 13) rfl) ?_
  refine ev_b (rGetI R (k := 22) rfl) ?_
  obtain ⟨c2, hN⟩ := hnz hN
  refine ev_b (rLdI R (k := 13) rfl c2) ?_
  refine ev_if (fun c3 => ?_) (fun c3 => ?_)
  · have hN := hif_t hN c3
    exact n_Mo_rule_38 _ _ _ _ _ R hN
  · have hN := hif_f hN c3
    exact n_Mo_rule_38 _ _ _ _ _ R hN
set_option maxHeartbeats 1000000 in
set_option maxRecDepth 100000 in
theorem n_Mo_read_188 {ad : Nat → Nat} {m F : Nat} : ∀ (h : hH) (s : MS) (x1 : Int32) (q : (Int32 × MS)), RepM ad m h s → N_Mo_read_188 F s x1 = some q → ∃ h2, M_Mo_read_188 F h m x1 = some (q.1, h2) ∧ RepM ad m h2 q.2 := by
  intro h s x1 q R hN
  unfold N_Mo_read_188 at hN
  unfold M_Mo_read_188
  refine ex_b (rGetI R (k := 24) rfl) ?_
  refine ex_if (fun c1 => ?_) (fun c1 => ?_)
  · have hN := hif_t hN c1
    refine ex_b (rGetA R (k := 4) rfl) ?_
    refine ex_b (rGetI R (k := 22) rfl) ?_
    obtain ⟨c2, hN⟩ := hnz hN
    obtain ⟨y3, ey3, hN⟩ := hb_some hN
    obtain ⟨h4, eh4, R⟩ := rStI R (k := 4) (x := x1) rfl c2
    rw [Option.some.inj ey3] at R
    refine ex_b eh4 ?_
    refine ex_b (rGetI R (k := 3) rfl) ?_
    obtain ⟨y5, ey5, hN⟩ := hb_some hN
    obtain ⟨h6, eh6, R⟩ := rPut R (k := 3) (v := (y3.1 3) + 1) rfl
    rw [Option.some.inj ey5] at R
    refine ex_b eh6 ?_
    refine ex_b (rGetA R (k := 13) rfl) ?_
    refine ex_b (rGetI R (k := 22) rfl) ?_
    obtain ⟨c7, hN⟩ := hnz hN
    refine ex_b (rLdI R (k := 13) rfl c7) ?_
    obtain rfl := Option.some.inj hN
    exact ⟨_, rfl, R⟩
  · have hN := hif_f hN c1
    refine ex_b (rGetI R (k := 24) rfl) ?_
    obtain rfl := Option.some.inj hN
    exact ⟨_, rfl, R⟩
set_option maxHeartbeats 1000000 in
set_option maxRecDepth 100000 in
theorem n_Mo_read_175 {ad : Nat → Nat} {m F : Nat} {m113 : hH → Nat → Int32 → Option (Int32 × hH)} {r113 : MS → Int32 → Option (Int32 × MS)} (P113 : ∀ (h : hH) (s : MS) (x1 : Int32) (q : (Int32 × MS)), RepM ad m h s → r113 s x1 = some q → ∃ h2, m113 h m x1 = some (q.1, h2) ∧ RepM ad m h2 q.2) : ∀ (h : hH) (s : MS) (x1 : Int32) (s1 : Int32) (q : (Int32 × MS)), RepM ad m h s → N_Mo_read_175 F r113 s x1 s1 = some q → ∃ h2, M_Mo_read_175 F m113 h m x1 m s1 = some (q.1, h2) ∧ RepM ad m h2 q.2 := by
  intro h s x1 s1 q R hN
  unfold N_Mo_read_175 at hN
  unfold M_Mo_read_175
  obtain ⟨q1, eq1, hN⟩ := hb_some hN
  refine ex_b (rIs R) ?_
  obtain ⟨h2, eh2, R⟩ := n_Mo_want R eq1
  refine ex_b eh2 ?_
  refine ex_if (fun c3 => ?_) (fun c3 => ?_)
  · have hN := hif_t hN c3
    exact P113 _ _ _ _ R hN
  · have hN := hif_f hN c3
    obtain ⟨q4, eq4, hN⟩ := hb_some hN
    refine ex_b (rIs R) ?_
    obtain ⟨h5, eh5, R⟩ := n_Mo_rule R eq4
    refine ex_b eh5 ?_
    exact P113 _ _ _ _ R hN
set_option maxHeartbeats 1000000 in
set_option maxRecDepth 100000 in
theorem n_Mo_read_170 {ad : Nat → Nat} {m F : Nat} {m113 : hH → Nat → Int32 → Option (Int32 × hH)} {r113 : MS → Int32 → Option (Int32 × MS)} (P113 : ∀ (h : hH) (s : MS) (x1 : Int32) (q : (Int32 × MS)), RepM ad m h s → r113 s x1 = some q → ∃ h2, m113 h m x1 = some (q.1, h2) ∧ RepM ad m h2 q.2) : ∀ (h : hH) (s : MS) (x1 : Int32) (q : (Int32 × MS)), RepM ad m h s → N_Mo_read_170 F r113 s x1 = some q → ∃ h2, M_Mo_read_170 F m113 h m x1 m = some (q.1, h2) ∧ RepM ad m h2 q.2 := by
  intro h s x1 q R hN
  unfold N_Mo_read_170 at hN
  unfold M_Mo_read_170
  exact n_Mo_read_175 P113 _ _ _ _ _ R hN
set_option maxHeartbeats 1000000 in
set_option maxRecDepth 100000 in
theorem bn_Mo_read_113 {ad : Nat → Nat} {m F : Nat} {m113 : hH → Nat → Int32 → Option (Int32 × hH)} {r113 : MS → Int32 → Option (Int32 × MS)} (P113 : ∀ (h : hH) (s : MS) (x1 : Int32) (q : (Int32 × MS)), RepM ad m h s → r113 s x1 = some q → ∃ h2, m113 h m x1 = some (q.1, h2) ∧ RepM ad m h2 q.2) : ∀ (h : hH) (s : MS) (x1 : Int32) (q : (Int32 × MS)), RepM ad m h s → BN_Mo_read_113 F r113 s x1 = some q → ∃ h2, B_Mo_read_113 F m113 h m x1 = some (q.1, h2) ∧ RepM ad m h2 q.2 := by
  intro h s x1 q R hN
  unfold BN_Mo_read_113 at hN
  unfold B_Mo_read_113
  refine ex_b (rGetI R (k := 24) rfl) ?_
  refine ex_if (fun c1 => ?_) (fun c1 => ?_)
  · have hN := hif_t hN c1
    exact n_Mo_read_188 _ _ _ _ R hN
  · have hN := hif_f hN c1
    refine ex_b (rGetI R (k := 23) rfl) ?_
    refine ex_b (rGetA R (k := 9) rfl) ?_
    refine ex_b (rGetI R (k := 22) rfl) ?_
    obtain ⟨c2, hN⟩ := hnz hN
    refine ex_b (rLdI R (k := 9) rfl c2) ?_
    refine ex_if (fun c3 => ?_) (fun c3 => ?_)
    · have hN := hif_t hN c3
      exact n_Mo_read_188 _ _ _ _ R hN
    · have hN := hif_f hN c3
      obtain ⟨q4, eq4, hN⟩ := hb_some hN
      refine ex_b (rIs R) ?_
      obtain ⟨h5, eh5, R⟩ := n_Mo_now R eq4
      refine ex_b eh5 ?_
      refine ex_if (fun c6 => ?_) (fun c6 => ?_)
      · have hN := hif_t hN c6
        obtain ⟨q13, eq13, hN⟩ := hb_some hN
        refine ex_b (rIs R) ?_
        obtain ⟨h14, eh14, R⟩ := n_Mo_tableP R eq13
        refine ex_b eh14 ?_
        exact P113 _ _ _ _ R hN
      · have hN := hif_f hN c6
        obtain ⟨q7, eq7, hN⟩ := hb_some hN
        refine ex_b (rIs R) ?_
        obtain ⟨h8, eh8, R⟩ := n_Mo_now R eq7
        refine ex_b eh8 ?_
        refine ex_if (fun c9 => ?_) (fun c9 => ?_)
        · have hN := hif_t hN c9
          exact n_Mo_read_170 P113 _ _ _ _ R hN
        · have hN := hif_f hN c9
          obtain ⟨q10, eq10, hN⟩ := hb_some hN
          refine ex_b (rIs R) ?_
          obtain ⟨h11, eh11, R⟩ := n_Mo_now R eq10
          refine ex_b eh11 ?_
          refine ex_if (fun c12 => ?_) (fun c12 => ?_)
          · have hN := hif_t hN c12
            exact n_Mo_read_170 P113 _ _ _ _ R hN
          · have hN := hif_f hN c12
            exact n_Mo_read_175 P113 _ _ _ _ _ R hN
theorem n_Mo_read_113 {ad : Nat → Nat} {m F : Nat} : ∀ z : Nat, ∀ (h : hH) (s : MS) (x1 : Int32) (q : (Int32 × MS)), RepM ad m h s → N_Mo_read_113 F z s x1 = some q → ∃ h2, M_Mo_read_113 F z h m x1 = some (q.1, h2) ∧ RepM ad m h2 q.2 := by
  intro z
  induction z with
  | zero => intro h s x1 q R hN; exact absurd (show (none : Option _) = some q from hN) (fun t => by cases t)
  | succ z ih => exact bn_Mo_read_113 ih
set_option maxHeartbeats 1000000 in
set_option maxRecDepth 100000 in
theorem n_Mo_read_61 {ad : Nat → Nat} {m F : Nat} : ∀ (h : hH) (s : MS) (x1 : Int32) (q : (Int32 × MS)), RepM ad m h s → N_Mo_read_61 F s x1 = some q → ∃ h2, M_Mo_read_61 F h m x1 = some (q.1, h2) ∧ RepM ad m h2 q.2 := by
  intro h s x1 q R hN
  unfold N_Mo_read_61 at hN
  unfold M_Mo_read_61
  refine ex_b (rGetI R (k := 3) rfl) ?_
  obtain ⟨y1, ey1, hN⟩ := hb_some hN
  obtain ⟨h2, eh2, R⟩ := rPut R (k := 22) (v := s.1 3) rfl
  rw [Option.some.inj ey1] at R
  refine ex_b eh2 ?_
  obtain ⟨q3, eq3, hN⟩ := hb_some hN
  refine ex_b (rIs R) ?_
  obtain ⟨h4, eh4, R⟩ := n_Mo_split R eq3
  refine ex_b eh4 ?_
  obtain ⟨y5, ey5, hN⟩ := hb_some hN
  obtain ⟨h6, eh6, R⟩ := rPut R (k := 2) (v := 0) rfl
  rw [Option.some.inj ey5] at R
  refine ex_b eh6 ?_
  obtain ⟨y7, ey7, hN⟩ := hb_some hN
  obtain ⟨h8, eh8, R⟩ := rPut R (k := 23) (v := 0) rfl
  rw [Option.some.inj ey7] at R
  refine ex_b eh8 ?_
  obtain ⟨y9, ey9, hN⟩ := hb_some hN
  obtain ⟨h10, eh10, R⟩ := rPut R (k := 24) (v := (-1)) rfl
  rw [Option.some.inj ey9] at R
  refine ex_b eh10 ?_
  obtain ⟨y11, ey11, hN⟩ := hb_some hN
  obtain ⟨h12, eh12, R⟩ := rPut R (k := 21) (v := 0) rfl
  rw [Option.some.inj ey11] at R
  refine ex_b eh12 ?_
  refine ex_b (rGetA R (k := 10) rfl) ?_
  refine ex_b (rGetI R (k := 22) rfl) ?_
  obtain ⟨c13, hN⟩ := hnz hN
  obtain ⟨y14, ey14, hN⟩ := hb_some hN
  obtain ⟨h15, eh15, R⟩ := rStI R (k := 10) (x := 0) rfl c13
  rw [Option.some.inj ey14] at R
  refine ex_b eh15 ?_
  refine ex_b (rGetA R (k := 13) rfl) ?_
  refine ex_b (rGetI R (k := 22) rfl) ?_
  obtain ⟨c16, hN⟩ := hnz hN
  obtain ⟨y17, ey17, hN⟩ := hb_some hN
  obtain ⟨h18, eh18, R⟩ := rStI R (k := 13) (x := 0) rfl c16
  rw [Option.some.inj ey17] at R
  refine ex_b eh18 ?_
  exact n_Mo_read_113 F _ _ _ _ R hN
set_option maxHeartbeats 1000000 in
set_option maxRecDepth 100000 in
theorem n_Mo_read_53 {ad : Nat → Nat} {m F : Nat} : ∀ (h : hH) (s : MS) (x1 : Int32) (s0 : Int32) (s2 : Int32) (q : (Int32 × MS)), RepM ad m h s → N_Mo_read_53 F s x1 s0 s2 = some q → ∃ h2, M_Mo_read_53 F h m x1 s0 (ad 4) s2 = some (q.1, h2) ∧ RepM ad m h2 q.2 := by
  intro h s x1 s0 s2 q R hN
  unfold N_Mo_read_53 at hN
  unfold M_Mo_read_53
  obtain ⟨c1, hN⟩ := hnz hN
  refine ex_b (rLdI R (k := 4) rfl c1) ?_
  refine ex_if (fun c2 => ?_) (fun c2 => ?_)
  · have hN := hif_t hN c2
    exact n_Mo_read_61 _ _ _ _ R hN
  · have hN := hif_f hN c2
    obtain rfl := Option.some.inj hN
    exact ⟨_, rfl, R⟩
set_option maxHeartbeats 1000000 in
set_option maxRecDepth 100000 in
theorem n_Mo_read {ad : Nat → Nat} {m F : Nat} {h : hH} {s : MS} {x1 : Int32} {q : (Int32 × MS)} (R : RepM ad m h s) (hN : N_Mo_read F s x1 = some q) : ∃ h2, M_Mo_read F h m x1 = some (q.1, h2) ∧ RepM ad m h2 q.2 := by
  unfold N_Mo_read at hN
  unfold M_Mo_read
  obtain ⟨y1, ey1, hN⟩ := hb_some hN
  obtain ⟨h2, eh2, R⟩ := rPut R (k := 0) (v := 0) rfl
  rw [Option.some.inj ey1] at R
  refine ex_b eh2 ?_
  refine ex_if (fun c3 => ?_) (fun c3 => ?_)
  · have hN := hif_t hN c3
    obtain rfl := Option.some.inj hN
    exact ⟨_, rfl, R⟩
  · have hN := hif_f hN c3
    refine ex_if (fun c4 => ?_) (fun c4 => ?_)
    · have hN := hif_t hN c4
      obtain rfl := Option.some.inj hN
      exact ⟨_, rfl, R⟩
    · have hN := hif_f hN c4
      refine ex_b (rGetI R (k := 3) rfl) ?_
      refine ex_if (fun c5 => ?_) (fun c5 => ?_)
      · have hN := hif_t hN c5
        obtain rfl := Option.some.inj hN
        exact ⟨_, rfl, R⟩
      · have hN := hif_f hN c5
        refine ex_b (rGetI R (k := 3) rfl) ?_
        refine ex_if (fun c6 => ?_) (fun c6 => ?_)
        · have hN := hif_t hN c6
          exact n_Mo_read_61 _ _ _ _ R hN
        · have hN := hif_f hN c6
          refine ex_b (rGetA R (k := 4) rfl) ?_
          refine ex_b (rGetI R (k := 3) rfl) ?_
          refine ex_if (fun c7 => ?_) (fun c7 => ?_)
          · have hN := hif_t hN c7
            exact n_Mo_read_53 _ _ _ _ _ _ R hN
          · have hN := hif_f hN c7
            refine ex_b (rGetI R (k := 3) rfl) ?_
            exact n_Mo_read_53 _ _ _ _ _ _ R hN
set_option maxHeartbeats 1000000 in
set_option maxRecDepth 100000 in
theorem n_Mo_editions {ad : Nat → Nat} {m F : Nat} {h : hH} {s : MS} {q : (Int32 × MS)} (R : RepM ad m h s) (hN : N_Mo_editions F s = some q) : ∃ h2, M_Mo_editions F h m = some (q.1, h2) ∧ RepM ad m h2 q.2 := by
  unfold N_Mo_editions at hN
  unfold M_Mo_editions
  obtain ⟨y1, ey1, hN⟩ := hb_some hN
  obtain ⟨h2, eh2, R⟩ := rPut R (k := 0) (v := 0) rfl
  rw [Option.some.inj ey1] at R
  refine ex_b eh2 ?_
  refine ex_b (rGetI R (k := 3) rfl) ?_
  obtain rfl := Option.some.inj hN
  exact ⟨_, rfl, R⟩
set_option maxHeartbeats 1000000 in
set_option maxRecDepth 100000 in
theorem n_Mo_fact {ad : Nat → Nat} {m F : Nat} {h : hH} {s : MS} {x1 : Int32} {x2 : Int64} {q : (Int32 × MS)} (R : RepM ad m h s) (hN : N_Mo_fact F s x1 x2 = some q) : ∃ h2, M_Mo_fact F h m x1 x2 = some (q.1, h2) ∧ RepM ad m h2 q.2 := by
  unfold N_Mo_fact at hN
  unfold M_Mo_fact
  obtain ⟨y1, ey1, hN⟩ := hb_some hN
  obtain ⟨h2, eh2, R⟩ := rPut R (k := 0) (v := 0) rfl
  rw [Option.some.inj ey1] at R
  refine ex_b eh2 ?_
  refine ex_if (fun c3 => ?_) (fun c3 => ?_)
  · have hN := hif_t hN c3
    obtain rfl := Option.some.inj hN
    exact ⟨_, rfl, R⟩
  · have hN := hif_f hN c3
    refine ex_if (fun c4 => ?_) (fun c4 => ?_)
    · have hN := hif_t hN c4
      refine ex_b (rGetA R (k := 27) rfl) ?_
      obtain ⟨c5, hN⟩ := hnz hN
      obtain ⟨y6, ey6, hN⟩ := hb_some hN
      obtain ⟨h7, eh7, R⟩ := rStJ R (k := 27) (x := x2) rfl c5
      rw [Option.some.inj ey6] at R
      refine ex_b eh7 ?_
      refine ex_b (rGetA R (k := 28) rfl) ?_
      obtain ⟨c8, hN⟩ := hnz hN
      obtain ⟨y9, ey9, hN⟩ := hb_some hN
      obtain ⟨h10, eh10, R⟩ := rStZ R (k := 28) (x := 1) rfl c8
      rw [Option.some.inj ey9] at R
      refine ex_b eh10 ?_
      obtain rfl := Option.some.inj hN
      exact ⟨_, rfl, R⟩
    · have hN := hif_f hN c4
      obtain rfl := Option.some.inj hN
      exact ⟨_, rfl, R⟩
set_option maxHeartbeats 1000000 in
set_option maxRecDepth 100000 in
theorem n_Mo_clearFacts_30 {ad : Nat → Nat} {m F : Nat} {m9 : hH → Nat → Int32 → Int32 → Option (Int32 × hH)} {r9 : MS → Int32 → Int32 → Option (Int32 × MS)} (P9 : ∀ (h : hH) (s : MS) (x1 : Int32) (x2 : Int32) (q : (Int32 × MS)), RepM ad m h s → r9 s x1 x2 = some q → ∃ h2, m9 h m x1 x2 = some (q.1, h2) ∧ RepM ad m h2 q.2) : ∀ (h : hH) (s : MS) (x2 : Int32) (s0 : Int32) (s1 : Int32) (q : (Int32 × MS)), RepM ad m h s → N_Mo_clearFacts_30 F r9 s x2 s0 s1 = some q → ∃ h2, M_Mo_clearFacts_30 F m9 h m x2 s0 s1 = some (q.1, h2) ∧ RepM ad m h2 q.2 := by
  intro h s x2 s0 s1 q R hN
  unfold N_Mo_clearFacts_30 at hN
  unfold M_Mo_clearFacts_30
  refine ex_b (rGetA R (k := 28) rfl) ?_
  obtain ⟨c1, hN⟩ := hnz hN
  obtain ⟨y2, ey2, hN⟩ := hb_some hN
  obtain ⟨h3, eh3, R⟩ := rStZ R (k := 28) (x := 0) rfl c1
  rw [Option.some.inj ey2] at R
  refine ex_b eh3 ?_
  exact P9 _ _ _ _ _ R hN
set_option maxHeartbeats 1000000 in
set_option maxRecDepth 100000 in
theorem bn_Mo_clearFacts_9 {ad : Nat → Nat} {m F : Nat} {m9 : hH → Nat → Int32 → Int32 → Option (Int32 × hH)} {r9 : MS → Int32 → Int32 → Option (Int32 × MS)} (P9 : ∀ (h : hH) (s : MS) (x1 : Int32) (x2 : Int32) (q : (Int32 × MS)), RepM ad m h s → r9 s x1 x2 = some q → ∃ h2, m9 h m x1 x2 = some (q.1, h2) ∧ RepM ad m h2 q.2) : ∀ (h : hH) (s : MS) (x1 : Int32) (x2 : Int32) (q : (Int32 × MS)), RepM ad m h s → BN_Mo_clearFacts_9 F r9 s x1 x2 = some q → ∃ h2, B_Mo_clearFacts_9 F m9 h m x1 x2 = some (q.1, h2) ∧ RepM ad m h2 q.2 := by
  intro h s x1 x2 q R hN
  unfold BN_Mo_clearFacts_9 at hN
  unfold B_Mo_clearFacts_9
  refine ex_if (fun c1 => ?_) (fun c1 => ?_)
  · have hN := hif_t hN c1
    obtain rfl := Option.some.inj hN
    exact ⟨_, rfl, R⟩
  · have hN := hif_f hN c1
    refine ex_b (rGetA R (k := 28) rfl) ?_
    obtain ⟨c2, hN⟩ := hnz hN
    refine ex_b (rLdI R (k := 28) rfl c2) ?_
    refine ex_if (fun c3 => ?_) (fun c3 => ?_)
    · have hN := hif_t hN c3
      exact n_Mo_clearFacts_30 P9 _ _ _ _ _ _ R hN
    · have hN := hif_f hN c3
      exact n_Mo_clearFacts_30 P9 _ _ _ _ _ _ R hN
theorem n_Mo_clearFacts_9 {ad : Nat → Nat} {m F : Nat} : ∀ z : Nat, ∀ (h : hH) (s : MS) (x1 : Int32) (x2 : Int32) (q : (Int32 × MS)), RepM ad m h s → N_Mo_clearFacts_9 F z s x1 x2 = some q → ∃ h2, M_Mo_clearFacts_9 F z h m x1 x2 = some (q.1, h2) ∧ RepM ad m h2 q.2 := by
  intro z
  induction z with
  | zero => intro h s x1 x2 q R hN; exact absurd (show (none : Option _) = some q from hN) (fun t => by cases t)
  | succ z ih => exact bn_Mo_clearFacts_9 ih
set_option maxHeartbeats 1000000 in
set_option maxRecDepth 100000 in
theorem n_Mo_clearFacts {ad : Nat → Nat} {m F : Nat} {h : hH} {s : MS} {q : (Int32 × MS)} (R : RepM ad m h s) (hN : N_Mo_clearFacts F s = some q) : ∃ h2, M_Mo_clearFacts F h m = some (q.1, h2) ∧ RepM ad m h2 q.2 := by
  unfold N_Mo_clearFacts at hN
  unfold M_Mo_clearFacts
  obtain ⟨y1, ey1, hN⟩ := hb_some hN
  obtain ⟨h2, eh2, R⟩ := rPut R (k := 0) (v := 0) rfl
  rw [Option.some.inj ey1] at R
  refine ex_b eh2 ?_
  exact n_Mo_clearFacts_9 F _ _ _ _ _ R hN
set_option maxHeartbeats 1000000 in
set_option maxRecDepth 100000 in
theorem n_Mo_editionOf_27 {ad : Nat → Nat} {m F : Nat} {m4 : hH → Nat → Int32 → Int32 → Int32 → Option (Int32 × hH)} {r4 : MS → Int32 → Int32 → Int32 → Option (Int32 × MS)} (P4 : ∀ (h : hH) (s : MS) (x1 : Int32) (x2 : Int32) (x3 : Int32) (q : (Int32 × MS)), RepM ad m h s → r4 s x1 x2 x3 = some q → ∃ h2, m4 h m x1 x2 x3 = some (q.1, h2) ∧ RepM ad m h2 q.2) : ∀ (h : hH) (s : MS) (x1 : Int32) (x3 : Int32) (s0 : Int32) (q : (Int32 × MS)), RepM ad m h s → N_Mo_editionOf_27 F r4 s x1 x3 s0 = some q → ∃ h2, M_Mo_editionOf_27 F m4 h m x1 x3 s0 = some (q.1, h2) ∧ RepM ad m h2 q.2 := by
  intro h s x1 x3 s0 q R hN
  unfold N_Mo_editionOf_27 at hN
  unfold M_Mo_editionOf_27
  exact P4 _ _ _ _ _ _ R hN
set_option maxHeartbeats 1000000 in
set_option maxRecDepth 100000 in
theorem bn_Mo_editionOf_4 {ad : Nat → Nat} {m F : Nat} {m4 : hH → Nat → Int32 → Int32 → Int32 → Option (Int32 × hH)} {r4 : MS → Int32 → Int32 → Int32 → Option (Int32 × MS)} (P4 : ∀ (h : hH) (s : MS) (x1 : Int32) (x2 : Int32) (x3 : Int32) (q : (Int32 × MS)), RepM ad m h s → r4 s x1 x2 x3 = some q → ∃ h2, m4 h m x1 x2 x3 = some (q.1, h2) ∧ RepM ad m h2 q.2) : ∀ (h : hH) (s : MS) (x1 : Int32) (x2 : Int32) (x3 : Int32) (q : (Int32 × MS)), RepM ad m h s → BN_Mo_editionOf_4 F r4 s x1 x2 x3 = some q → ∃ h2, B_Mo_editionOf_4 F m4 h m x1 x2 x3 = some (q.1, h2) ∧ RepM ad m h2 q.2 := by
  intro h s x1 x2 x3 q R hN
  unfold BN_Mo_editionOf_4 at hN
  unfold B_Mo_editionOf_4
  refine ex_b (rGetI R (k := 3) rfl) ?_
  refine ex_if (fun c1 => ?_) (fun c1 => ?_)
  · have hN := hif_t hN c1
    obtain rfl := Option.some.inj hN
    exact ⟨_, rfl, R⟩
  · have hN := hif_f hN c1
    refine ex_b (rGetA R (k := 4) rfl) ?_
    obtain ⟨c2, hN⟩ := hnz hN
    refine ex_b (rLdI R (k := 4) rfl c2) ?_
    refine ex_if (fun c3 => ?_) (fun c3 => ?_)
    · have hN := hif_t hN c3
      exact n_Mo_editionOf_27 P4 _ _ _ _ _ _ R hN
    · have hN := hif_f hN c3
      exact n_Mo_editionOf_27 P4 _ _ _ _ _ _ R hN
theorem n_Mo_editionOf_4 {ad : Nat → Nat} {m F : Nat} : ∀ z : Nat, ∀ (h : hH) (s : MS) (x1 : Int32) (x2 : Int32) (x3 : Int32) (q : (Int32 × MS)), RepM ad m h s → N_Mo_editionOf_4 F z s x1 x2 x3 = some q → ∃ h2, M_Mo_editionOf_4 F z h m x1 x2 x3 = some (q.1, h2) ∧ RepM ad m h2 q.2 := by
  intro z
  induction z with
  | zero => intro h s x1 x2 x3 q R hN; exact absurd (show (none : Option _) = some q from hN) (fun t => by cases t)
  | succ z ih => exact bn_Mo_editionOf_4 ih
set_option maxHeartbeats 1000000 in
set_option maxRecDepth 100000 in
theorem n_Mo_editionOf {ad : Nat → Nat} {m F : Nat} {h : hH} {s : MS} {x1 : Int32} {q : (Int32 × MS)} (R : RepM ad m h s) (hN : N_Mo_editionOf F s x1 = some q) : ∃ h2, M_Mo_editionOf F h m x1 = some (q.1, h2) ∧ RepM ad m h2 q.2 := by
  unfold N_Mo_editionOf at hN
  unfold M_Mo_editionOf
  exact n_Mo_editionOf_4 F _ _ _ _ _ _ R hN
