def X_TextReader_init (F : Nat) (s : XS) (x0 : Nat) (x1 : Nat) : Option XS :=
  (some (xNewO s 7)).bind fun y1 =>
  (X_Steps_init F y1 (xZ s)).bind fun q3 =>
  (xPutR q3 x0 9 0 (xZ s)).bind fun y5 =>
  (xPutR y5 x0 9 1 x1).bind fun y7 =>
  (xGetA y7 x1 1 0).bind fun v9 =>
  (xPutR y7 x0 9 2 v9).bind fun y10 =>
  (xGetA y10 x1 1 1).bind fun v12 =>
  (xPutR y10 x0 9 3 v12).bind fun y13 =>
  (xPutI y13 x0 9 4 0).bind fun y15 =>
  (xPutI y15 x0 9 5 0).bind fun y17 =>
  (xPutI y17 x0 9 6 (-1)).bind fun y19 =>
  (xPutI y19 x0 9 7 0).bind fun y21 =>
  some y21
def X_TextReader_rankOf (F : Nat) (s : XS) (x0 : Int32) : Option (Int32 × XS) :=
  if x0 = 2 then (
    some (3, s)
  ) else
  if x0 = 3 then (
    some (0, s)
  ) else
  if x0 = 4 then (
    some (1, s)
  ) else
  if x0 = 5 then (
    some (1, s)
  ) else
  if x0 = 6 then (
    some (2, s)
  ) else
  if x0 = 7 then (
    some (2, s)
  ) else
  if x0 = 8 then (
    some (2, s)
  ) else
  some (0, s)
def X_TextReader_settle_70 (F : Nat) (r10 : XS → Nat → Int32 → Int32 → Option XS) (s : XS) (x0 : Nat) (x1 : Int32) (x2 : Int32) : Option XS :=
  r10 s x0 x1 (x2 + (-1))
def BX_TextReader_settle_10 (F : Nat) (r10 : XS → Nat → Int32 → Int32 → Option XS) (s : XS) (x0 : Nat) (x1 : Int32) (x2 : Int32) : Option XS :=
  if x2 < 0 then (
    some s
  ) else (
    (xGetA s x0 9 0).bind fun v2 =>
    (xIs s v2 7).bind fun u3 =>
    (X_Steps_kindAt F s v2 x2).bind fun q4 =>
    (X_TextReader_rankOf F q4.2 q4.1).bind fun q6 =>
    if x1 ≤ q6.1 then (
      (xGetA q6.2 x0 9 3).bind fun v9 =>
      (xGetA q6.2 x0 9 0).bind fun v10 =>
      (xIs q6.2 v10 7).bind fun u11 =>
      (X_Steps_valueAt F q6.2 v10 x2).bind fun q12 =>
      (xIs q12.2 v9 7).bind fun u14 =>
      (X_Steps_add F q12.2 v9 q4.1 q12.1).bind fun q15 =>
      (xGetA q15 x0 9 0).bind fun v17 =>
      (xIs q15 v17 7).bind fun u18 =>
      (X_Steps_removeLast F q15 v17).bind fun q19 =>
      if q4.1 = 2 then (
        (xGetI q19 x0 9 5).bind fun v22 =>
        (xPutI q19 x0 9 5 (v22 - 1)).bind fun y23 =>
        X_TextReader_settle_70 F r10 y23 x0 x1 x2
      ) else (
        X_TextReader_settle_70 F r10 q19 x0 x1 x2
      )
    ) else (
      some q6.2
    )
  )
def X_TextReader_settle_10 (F : Nat) : Nat → XS → Nat → Int32 → Int32 → Option XS
  | 0 => fun _ _ _ _ => none
  | z + 1 => BX_TextReader_settle_10 F (X_TextReader_settle_10 F z)
def X_TextReader_settle (F : Nat) (s : XS) (x0 : Nat) (x1 : Int32) : Option XS :=
  (xGetA s x0 9 0).bind fun v1 =>
  (xGetI s v1 7 2).bind fun v2 =>
  X_TextReader_settle_10 F F s x0 x1 (v2 - 1)
def X_TextReader_endAtom (F : Nat) (s : XS) (x0 : Nat) : Option XS :=
  (xIs s x0 9).bind fun u1 =>
  (X_TextReader_settle F s x0 3).bind fun q2 =>
  (xPutI q2 x0 9 4 5).bind fun y4 =>
  some y4
def X_TextReader_waitAround (F : Nat) (s : XS) (x0 : Nat) (x1 : Int32) (x2 : Int32) : Option XS :=
  (xGetA s x0 9 0).bind fun v1 =>
  (xIs s v1 7).bind fun u2 =>
  (X_Steps_add F s v1 x1 x2).bind fun q3 =>
  (xGetI q3 x0 9 5).bind fun v5 =>
  (xPutI q3 x0 9 5 (v5 + 1)).bind fun y6 =>
  (xPutI y6 x0 9 4 2).bind fun y8 =>
  some y8
def X_TextReader_closeBracket (F : Nat) (s : XS) (x0 : Nat) : Option (Int32 × XS) :=
  (xIs s x0 9).bind fun u1 =>
  (X_TextReader_settle F s x0 1).bind fun q2 =>
  (xGetA q2 x0 9 0).bind fun v4 =>
  (xGetA q2 x0 9 0).bind fun v5 =>
  (xGetI q2 v5 7 2).bind fun v6 =>
  (xIs q2 v4 7).bind fun u7 =>
  (X_Steps_kindAt F q2 v4 (v6 - 1)).bind fun q8 =>
  if q8.1 = 3 then (
    (xGetA q8.2 x0 9 0).bind fun v11 =>
    (xIs q8.2 v11 7).bind fun u12 =>
    (X_Steps_removeLast F q8.2 v11).bind fun q13 =>
    (xGetI q13 x0 9 5).bind fun v15 =>
    (xPutI q13 x0 9 5 (v15 - 1)).bind fun y16 =>
    (xIs y16 x0 9).bind fun u18 =>
    (X_TextReader_settle F y16 x0 3).bind fun q19 =>
    some (1, q19)
  ) else (
    some (0, q8.2)
  )
def X_TextReader_operatorAt (F : Nat) (s : XS) (x0 : Nat) (x1 : Int32) : Option (Int32 × XS) :=
  (xGetA s x0 9 2).bind fun v1 =>
  (xIs s v1 10).bind fun u2 =>
  (X_Words_is F s v1 x1 7).bind fun q3 =>
  if q3.1 = 0 then (
    (xGetA q3.2 x0 9 2).bind fun v6 =>
    (xIs q3.2 v6 10).bind fun u7 =>
    (X_Words_is F q3.2 v6 x1 8).bind fun q8 =>
    if q8.1 = 0 then (
      (xGetA q8.2 x0 9 2).bind fun v11 =>
      (xIs q8.2 v11 10).bind fun u12 =>
      (X_Words_is F q8.2 v11 x1 9).bind fun q13 =>
      if q13.1 = 0 then (
        (xGetA q13.2 x0 9 2).bind fun v16 =>
        (xIs q13.2 v16 10).bind fun u17 =>
        (X_Words_is F q13.2 v16 x1 10).bind fun q18 =>
        if q18.1 = 0 then (
          (xGetA q18.2 x0 9 2).bind fun v21 =>
          (xIs q18.2 v21 10).bind fun u22 =>
          (X_Words_is F q18.2 v21 x1 11).bind fun q23 =>
          if q23.1 = 0 then (
            some ((-1), q23.2)
          ) else (
            some (8, q23.2)
          )
        ) else (
          some (7, q18.2)
        )
      ) else (
        some (6, q13.2)
      )
    ) else (
      some (5, q8.2)
    )
  ) else (
    some (4, q3.2)
  )
def X_TextReader_relationAt (F : Nat) (s : XS) (x0 : Nat) (x1 : Int32) : Option (Int32 × XS) :=
  (xGetA s x0 9 2).bind fun v1 =>
  (xIs s v1 10).bind fun u2 =>
  (X_Words_is F s v1 x1 13).bind fun q3 =>
  if q3.1 = 0 then (
    (xGetA q3.2 x0 9 2).bind fun v6 =>
    (xIs q3.2 v6 10).bind fun u7 =>
    (X_Words_is F q3.2 v6 x1 14).bind fun q8 =>
    if q8.1 = 0 then (
      (xGetA q8.2 x0 9 2).bind fun v11 =>
      (xIs q8.2 v11 10).bind fun u12 =>
      (X_Words_is F q8.2 v11 x1 15).bind fun q13 =>
      if q13.1 = 0 then (
        (xGetA q13.2 x0 9 2).bind fun v16 =>
        (xIs q13.2 v16 10).bind fun u17 =>
        (X_Words_is F q13.2 v16 x1 16).bind fun q18 =>
        if q18.1 = 0 then (
          some ((-1), q18.2)
        ) else (
          some (12, q18.2)
        )
      ) else (
        some (11, q13.2)
      )
    ) else (
      some (10, q8.2)
    )
  ) else (
    some (9, q3.2)
  )
def X_TextReader_takeNeed (F : Nat) (s : XS) (x0 : Nat) (x1 : Int32) : Option (Int32 × XS) :=
  (xGetA s x0 9 2).bind fun v1 =>
  (xIs s v1 10).bind fun u2 =>
  (X_Words_is F s v1 x1 18).bind fun q3 =>
  if q3.1 = 0 then (
    some (0, q3.2)
  ) else (
    (xGetA q3.2 x0 9 1).bind fun v6 =>
    (xIs q3.2 v6 1).bind fun u7 =>
    (X_Edition_beginNeed F q3.2 v6).bind fun q8 =>
    (xPutI q8 x0 9 7 0).bind fun y10 =>
    (xPutI y10 x0 9 4 2).bind fun y12 =>
    some (1, y12)
  )
def X_TextReader_takeRuleEnd (F : Nat) (s : XS) (x0 : Nat) (x1 : Int32) : Option (Int32 × XS) :=
  (xGetA s x0 9 2).bind fun v1 =>
  (xIs s v1 10).bind fun u2 =>
  (X_Words_is F s v1 x1 3).bind fun q3 =>
  if q3.1 = 0 then (
    some (0, q3.2)
  ) else (
    (xGetA q3.2 x0 9 1).bind fun v6 =>
    (xIs q3.2 v6 1).bind fun u7 =>
    (X_Edition_endRule F q3.2 v6 x1).bind fun q8 =>
    (xPutI q8 x0 9 4 0).bind fun y10 =>
    some (1, y10)
  )
def X_TextReader_takeBehindAtom (F : Nat) (s : XS) (x0 : Nat) (x1 : Int32) : Option (Int32 × XS) :=
  (xIs s x0 9).bind fun u1 =>
  (X_TextReader_operatorAt F s x0 x1).bind fun q2 =>
  if q2.1 = (-1) then (
    (xGetI q2.2 x0 9 5).bind fun v5 =>
    if v5 ≤ 0 then (
      (xIs q2.2 x0 9).bind fun u7 =>
      (X_TextReader_settle F q2.2 x0 1).bind fun q8 =>
      (xGetI q8 x0 9 6).bind fun v10 =>
      if v10 = (-1) then (
        (xIs q8 x0 9).bind fun u36 =>
        (X_TextReader_relationAt F q8 x0 x1).bind fun q37 =>
        (xPutI q37.2 x0 9 6 q37.1).bind fun y39 =>
        (xPutI y39 x0 9 4 2).bind fun y41 =>
        (xGetI y41 x0 9 6).bind fun v43 =>
        if v43 = (-1) then (
          some (0, y41)
        ) else (
          some (1, y41)
        )
      ) else (
        (xGetA q8 x0 9 3).bind fun v12 =>
        (xGetI q8 x0 9 6).bind fun v13 =>
        (xIs q8 v12 7).bind fun u14 =>
        (X_Steps_add F q8 v12 v13 (-1)).bind fun q15 =>
        (xPutI q15 x0 9 6 (-1)).bind fun y17 =>
        (xGetA y17 x0 9 2).bind fun v19 =>
        (xIs y17 v19 10).bind fun u20 =>
        (X_Words_is F y17 v19 x1 17).bind fun q21 =>
        if q21.1 = 0 then (
          (xGetI q21.2 x0 9 7).bind fun v24 =>
          if v24 = 0 then (
            (xIs q21.2 x0 9).bind fun u26 =>
            (X_TextReader_takeRuleEnd F q21.2 x0 x1).bind fun q27 =>
            (hZ q27.1).bind fun u29 =>
            some (q27.1, q27.2)
          ) else (
            (xIs q21.2 x0 9).bind fun u30 =>
            (X_TextReader_takeNeed F q21.2 x0 x1).bind fun q31 =>
            (hZ q31.1).bind fun u33 =>
            some (q31.1, q31.2)
          )
        ) else (
          (xPutI q21.2 x0 9 4 2).bind fun y34 =>
          some (1, y34)
        )
      )
    ) else (
      (xGetA q2.2 x0 9 2).bind fun v45 =>
      (xIs q2.2 v45 10).bind fun u46 =>
      (X_Words_is F q2.2 v45 x1 12).bind fun q47 =>
      if q47.1 = 0 then (
        some (0, q47.2)
      ) else (
        (xIs q47.2 x0 9).bind fun u50 =>
        (X_TextReader_closeBracket F q47.2 x0).bind fun q51 =>
        if q51.1 = 0 then (
          some (0, q51.2)
        ) else (
          some (1, q51.2)
        )
      )
    )
  ) else (
    (X_TextReader_rankOf F q2.2 q2.1).bind fun q54 =>
    (xIs q54.2 x0 9).bind fun u56 =>
    (X_TextReader_settle F q54.2 x0 q54.1).bind fun q57 =>
    (xGetA q57 x0 9 0).bind fun v59 =>
    (xIs q57 v59 7).bind fun u60 =>
    (X_Steps_add F q57 v59 q2.1 (-1)).bind fun q61 =>
    (xPutI q61 x0 9 4 2).bind fun y63 =>
    some (1, y63)
  )
def X_TextReader_takeTableName (F : Nat) (s : XS) (x0 : Nat) (x1 : Int32) : Option (Int32 × XS) :=
  (xGetA s x0 9 2).bind fun v1 =>
  (xIs s v1 10).bind fun u2 =>
  (X_Words_numberAt F s v1 x1).bind fun q3 =>
  if q3.1 < 0 then (
    some (0, q3.2)
  ) else (
    (xGetA q3.2 x0 9 1).bind fun v6 =>
    (xGetA q3.2 v6 1 2).bind fun v7 =>
    (xGetI q3.2 v7 8 2).bind fun v8 =>
    if q3.1 < v8 then (
      (xIs q3.2 x0 9).bind fun u10 =>
      (X_TextReader_waitAround F q3.2 x0 2 q3.1).bind fun q11 =>
      some (1, q11)
    ) else (
      some (0, q3.2)
    )
  )
def X_TextReader_takeFactName (F : Nat) (s : XS) (x0 : Nat) (x1 : Int32) : Option (Int32 × XS) :=
  (xGetA s x0 9 2).bind fun v1 =>
  (xIs s v1 10).bind fun u2 =>
  (X_Words_numberAt F s v1 x1).bind fun q3 =>
  if q3.1 < 0 then (
    some (0, q3.2)
  ) else (
    if q3.1 < 20 then (
      (xGetA q3.2 x0 9 3).bind fun v7 =>
      (xIs q3.2 v7 7).bind fun u8 =>
      (X_Steps_add F q3.2 v7 1 q3.1).bind fun q9 =>
      (xIs q9 x0 9).bind fun u11 =>
      (X_TextReader_endAtom F q9 x0).bind fun q12 =>
      some (1, q12)
    ) else (
      some (0, q3.2)
    )
  )
def X_TextReader_takeAtom (F : Nat) (s : XS) (x0 : Nat) (x1 : Int32) : Option (Int32 × XS) :=
  (xGetI s x0 9 5).bind fun v1 =>
  if v1 ≤ 12 then (
    (xGetA s x0 9 2).bind fun v3 =>
    (xIs s v3 10).bind fun u4 =>
    (X_Words_numberAt F s v3 x1).bind fun q5 =>
    if q5.1 = (-1) then (
      (xGetA q5.2 x0 9 2).bind fun v8 =>
      (xIs q5.2 v8 10).bind fun u9 =>
      (X_Words_is F q5.2 v8 x1 4).bind fun q10 =>
      if q10.1 = 0 then (
        (xGetA q10.2 x0 9 2).bind fun v13 =>
        (xIs q10.2 v13 10).bind fun u14 =>
        (X_Words_is F q10.2 v13 x1 5).bind fun q15 =>
        if q15.1 = 0 then (
          (xGetA q15.2 x0 9 2).bind fun v18 =>
          (xIs q15.2 v18 10).bind fun u19 =>
          (X_Words_is F q15.2 v18 x1 6).bind fun q20 =>
          if q20.1 = 0 then (
            some (0, q20.2)
          ) else (
            (xIs q20.2 x0 9).bind fun u23 =>
            (X_TextReader_waitAround F q20.2 x0 3 (-1)).bind fun q24 =>
            some (1, q24)
          )
        ) else (
          (xPutI q15.2 x0 9 4 4).bind fun y26 =>
          some (1, y26)
        )
      ) else (
        (xPutI q10.2 x0 9 4 3).bind fun y28 =>
        some (1, y28)
      )
    ) else (
      (xGetA q5.2 x0 9 3).bind fun v30 =>
      (xIs q5.2 v30 7).bind fun u31 =>
      (X_Steps_add F q5.2 v30 0 q5.1).bind fun q32 =>
      (xIs q32 x0 9).bind fun u34 =>
      (X_TextReader_endAtom F q32 x0).bind fun q35 =>
      some (1, q35)
    )
  ) else (
    some (0, s)
  )
def X_TextReader_takeTableNumber (F : Nat) (s : XS) (x0 : Nat) (x1 : Int32) : Option (Int32 × XS) :=
  (xGetA s x0 9 2).bind fun v1 =>
  (xIs s v1 10).bind fun u2 =>
  (X_Words_is F s v1 x1 3).bind fun q3 =>
  if q3.1 = 0 then (
    (xGetA q3.2 x0 9 2).bind fun v6 =>
    (xIs q3.2 v6 10).bind fun u7 =>
    (X_Words_numberAt F q3.2 v6 x1).bind fun q8 =>
    if q8.1 = (-1) then (
      some (0, q8.2)
    ) else (
      (xGetA q8.2 x0 9 1).bind fun v11 =>
      (xGetA q8.2 v11 1 2).bind fun v12 =>
      (xIs q8.2 v12 8).bind fun u13 =>
      (X_Tables_addNumber F q8.2 v12 q8.1).bind fun q14 =>
      if q14.1 = 0 then (
        some (0, q14.2)
      ) else (
        some (1, q14.2)
      )
    )
  ) else (
    (xPutI q3.2 x0 9 4 0).bind fun y17 =>
    (xGetA y17 x0 9 1).bind fun v19 =>
    (xGetA y17 v19 1 2).bind fun v20 =>
    (xIs y17 v20 8).bind fun u21 =>
    (X_Tables_lastSize F y17 v20).bind fun q22 =>
    if q22.1 ≤ 0 then (
      some (0, q22.2)
    ) else (
      some (1, q22.2)
    )
  )
def X_TextReader_takeItem_68 (F : Nat) (s : XS) (x0 : Nat) (x1 : Int32) : Option (Int32 × XS) :=
  (xGetA s x0 9 1).bind fun v1 =>
  (xIs s v1 1).bind fun u2 =>
  (X_Edition_beginRule F s v1 x1).bind fun q3 =>
  if q3.1 = 0 then (
    some (0, q3.2)
  ) else (
    some (1, q3.2)
  )
def X_TextReader_takeItem (F : Nat) (s : XS) (x0 : Nat) (x1 : Int32) : Option (Int32 × XS) :=
  (xGetA s x0 9 2).bind fun v1 =>
  (xIs s v1 10).bind fun u2 =>
  (X_Words_is F s v1 x1 0).bind fun q3 =>
  if q3.1 = 0 then (
    (xGetA q3.2 x0 9 2).bind fun v6 =>
    (xIs q3.2 v6 10).bind fun u7 =>
    (X_Words_is F q3.2 v6 x1 1).bind fun q8 =>
    (xPutZ q8.2 x0 9 7 q8.1).bind fun y10 =>
    (xPutI y10 x0 9 4 2).bind fun y12 =>
    (xGetI y12 x0 9 7).bind fun v14 =>
    if v14 = 0 then (
      (xGetA y12 x0 9 2).bind fun v16 =>
      (xIs y12 v16 10).bind fun u17 =>
      (X_Words_is F y12 v16 x1 2).bind fun q18 =>
      if q18.1 = 0 then (
        some (0, q18.2)
      ) else (
        X_TextReader_takeItem_68 F q18.2 x0 x1
      )
    ) else (
      X_TextReader_takeItem_68 F y12 x0 x1
    )
  ) else (
    (xPutI q3.2 x0 9 4 1).bind fun y21 =>
    (xGetA y21 x0 9 1).bind fun v23 =>
    (xGetA y21 v23 1 2).bind fun v24 =>
    (xIs y21 v24 8).bind fun u25 =>
    (X_Tables_begin F y21 v24).bind fun q26 =>
    (hZ q26.1).bind fun u28 =>
    some (q26.1, q26.2)
  )
def X_TextReader_take (F : Nat) (s : XS) (x0 : Nat) (x1 : Int32) : Option (Int32 × XS) :=
  (xGetI s x0 9 4).bind fun v1 =>
  if v1 = 0 then (
    (xIs s x0 9).bind fun u3 =>
    (X_TextReader_takeItem F s x0 x1).bind fun q4 =>
    (hZ q4.1).bind fun u6 =>
    some (q4.1, q4.2)
  ) else
  if v1 = 1 then (
    (xIs s x0 9).bind fun u8 =>
    (X_TextReader_takeTableNumber F s x0 x1).bind fun q9 =>
    (hZ q9.1).bind fun u11 =>
    some (q9.1, q9.2)
  ) else
  if v1 = 2 then (
    (xIs s x0 9).bind fun u13 =>
    (X_TextReader_takeAtom F s x0 x1).bind fun q14 =>
    (hZ q14.1).bind fun u16 =>
    some (q14.1, q14.2)
  ) else
  if v1 = 3 then (
    (xIs s x0 9).bind fun u18 =>
    (X_TextReader_takeFactName F s x0 x1).bind fun q19 =>
    (hZ q19.1).bind fun u21 =>
    some (q19.1, q19.2)
  ) else
  if v1 = 4 then (
    (xIs s x0 9).bind fun u23 =>
    (X_TextReader_takeTableName F s x0 x1).bind fun q24 =>
    (hZ q24.1).bind fun u26 =>
    some (q24.1, q24.2)
  ) else
  (xIs s x0 9).bind fun u27 =>
  (X_TextReader_takeBehindAtom F s x0 x1).bind fun q28 =>
  (hZ q28.1).bind fun u30 =>
  some (q28.1, q28.2)
def X_TextReader_begin (F : Nat) (s : XS) (x0 : Nat) (x1 : Nat) : Option XS :=
  (xPutR s x0 9 1 x1).bind fun y1 =>
  (xGetA y1 x1 1 0).bind fun v3 =>
  (xPutR y1 x0 9 2 v3).bind fun y4 =>
  (xGetA y4 x1 1 1).bind fun v6 =>
  (xPutR y4 x0 9 3 v6).bind fun y7 =>
  (xGetA y7 x0 9 0).bind fun v9 =>
  (xIs y7 v9 7).bind fun u10 =>
  (X_Steps_clear F y7 v9).bind fun q11 =>
  (xPutI q11 x0 9 4 0).bind fun y13 =>
  (xPutI y13 x0 9 5 0).bind fun y15 =>
  (xPutI y15 x0 9 6 (-1)).bind fun y17 =>
  (xPutI y17 x0 9 7 0).bind fun y19 =>
  some y19
def BX_TextReader_firstWrong_7 (F : Nat) (r7 : XS → Nat → Int32 → Option (Int32 × XS)) (s : XS) (x0 : Nat) (x2 : Int32) : Option (Int32 × XS) :=
  (xGetA s x0 9 2).bind fun v1 =>
  (xGetI s v1 10 3).bind fun v2 =>
  if v2 ≤ x2 then (
    (xGetI s x0 9 4).bind fun v4 =>
    if v4 = 0 then (
      some ((-1), s)
    ) else (
      (xGetA s x0 9 2).bind fun v6 =>
      (xGetI s v6 10 3).bind fun v7 =>
      some (v7, s)
    )
  ) else (
    (xIs s x0 9).bind fun u8 =>
    (X_TextReader_take F s x0 x2).bind fun q9 =>
    if q9.1 = 0 then (
      some (x2, q9.2)
    ) else (
      r7 q9.2 x0 (x2 + 1)
    )
  )
def X_TextReader_firstWrong_7 (F : Nat) : Nat → XS → Nat → Int32 → Option (Int32 × XS)
  | 0 => fun _ _ _ => none
  | z + 1 => BX_TextReader_firstWrong_7 F (X_TextReader_firstWrong_7 F z)
def X_TextReader_firstWrong (F : Nat) (s : XS) (x0 : Nat) (x1 : Nat) : Option (Int32 × XS) :=
  (xIs s x0 9).bind fun u1 =>
  (X_TextReader_begin F s x0 x1).bind fun q2 =>
  X_TextReader_firstWrong_7 F 401 q2 x0 0
set_option maxHeartbeats 1000000 in
set_option maxRecDepth 100000 in
theorem x_TextReader_init {F : Nat} {h : hH} {s : XS} {x0 : Nat} {x1 : Nat} {q : XS} (R : RepX h s) (hN : X_TextReader_init F s x0 x1 = some q) : ∃ h2, M_TextReader_init F h x0 x1 = some h2 ∧ RepX h2 q := by
  unfold X_TextReader_init at hN
  unfold M_TextReader_init
  obtain ⟨y1, ey1, hN⟩ := hb_some hN
  obtain ⟨h2, eh2, R, zy1⟩ := xw_new (ci := 7) R rfl
  rw [Option.some.inj ey1] at R
  refine ev_b eh2 ?_
  try rw [zy1]
  obtain ⟨q3, eq3, hN⟩ := hb_some hN
  obtain ⟨h4, eh4, R⟩ := x_Steps_init R eq3
  refine ev_b eh4 ?_
  obtain ⟨y5, ey5, hN⟩ := hb_some hN
  obtain ⟨h6, eh6, R⟩ := xw_R R ey5
  refine ev_b eh6 ?_
  obtain ⟨y7, ey7, hN⟩ := hb_some hN
  obtain ⟨h8, eh8, R⟩ := xw_R R ey7
  refine ev_b eh8 ?_
  obtain ⟨v9, ev9, hN⟩ := hb_some hN
  refine ev_b (xr_A R ev9) ?_
  obtain ⟨y10, ey10, hN⟩ := hb_some hN
  obtain ⟨h11, eh11, R⟩ := xw_R R ey10
  refine ev_b eh11 ?_
  obtain ⟨v12, ev12, hN⟩ := hb_some hN
  refine ev_b (xr_A R ev12) ?_
  obtain ⟨y13, ey13, hN⟩ := hb_some hN
  obtain ⟨h14, eh14, R⟩ := xw_R R ey13
  refine ev_b eh14 ?_
  obtain ⟨y15, ey15, hN⟩ := hb_some hN
  obtain ⟨h16, eh16, R⟩ := xw_I R ey15
  refine ev_b eh16 ?_
  obtain ⟨y17, ey17, hN⟩ := hb_some hN
  obtain ⟨h18, eh18, R⟩ := xw_I R ey17
  refine ev_b eh18 ?_
  obtain ⟨y19, ey19, hN⟩ := hb_some hN
  obtain ⟨h20, eh20, R⟩ := xw_I R ey19
  refine ev_b eh20 ?_
  obtain ⟨y21, ey21, hN⟩ := hb_some hN
  obtain ⟨h22, eh22, R⟩ := xw_I R ey21
  refine ev_b eh22 ?_
  obtain rfl := Option.some.inj hN
  exact ⟨_, rfl, R⟩
set_option maxHeartbeats 1000000 in
set_option maxRecDepth 100000 in
theorem x_TextReader_rankOf {F : Nat} {h : hH} {s : XS} {x0 : Int32} {q : (Int32 × XS)} (R : RepX h s) (hN : X_TextReader_rankOf F s x0 = some q) : ∃ h2, M_TextReader_rankOf F h x0 = some (q.1, h2) ∧ RepX h2 q.2 := by
  unfold X_TextReader_rankOf at hN
  unfold M_TextReader_rankOf
  refine ex_if (fun c1 => ?_) (fun c1 => ?_)
  · have hN := hif_t hN c1
    obtain rfl := Option.some.inj hN
    exact ⟨_, rfl, R⟩
  · have hN := hif_f hN c1
    refine ex_if (fun c2 => ?_) (fun c2 => ?_)
    · have hN := hif_t hN c2
      obtain rfl := Option.some.inj hN
      exact ⟨_, rfl, R⟩
    · have hN := hif_f hN c2
      refine ex_if (fun c3 => ?_) (fun c3 => ?_)
      · have hN := hif_t hN c3
        obtain rfl := Option.some.inj hN
        exact ⟨_, rfl, R⟩
      · have hN := hif_f hN c3
        refine ex_if (fun c4 => ?_) (fun c4 => ?_)
        · have hN := hif_t hN c4
          obtain rfl := Option.some.inj hN
          exact ⟨_, rfl, R⟩
        · have hN := hif_f hN c4
          refine ex_if (fun c5 => ?_) (fun c5 => ?_)
          · have hN := hif_t hN c5
            obtain rfl := Option.some.inj hN
            exact ⟨_, rfl, R⟩
          · have hN := hif_f hN c5
            refine ex_if (fun c6 => ?_) (fun c6 => ?_)
            · have hN := hif_t hN c6
              obtain rfl := Option.some.inj hN
              exact ⟨_, rfl, R⟩
            · have hN := hif_f hN c6
              refine ex_if (fun c7 => ?_) (fun c7 => ?_)
              · have hN := hif_t hN c7
                obtain rfl := Option.some.inj hN
                exact ⟨_, rfl, R⟩
              · have hN := hif_f hN c7
                obtain rfl := Option.some.inj hN
                exact ⟨_, rfl, R⟩
set_option maxHeartbeats 1000000 in
set_option maxRecDepth 100000 in
theorem x_TextReader_settle_70 {F : Nat} {m10 : hH → Nat → Int32 → Int32 → Option hH} {r10 : XS → Nat → Int32 → Int32 → Option XS} (P10 : ∀ (h : hH) (s : XS) (x0 : Nat) (x1 : Int32) (x2 : Int32) (q : XS), RepX h s → r10 s x0 x1 x2 = some q → ∃ h2, m10 h x0 x1 x2 = some h2 ∧ RepX h2 q) : ∀ (h : hH) (s : XS) (x0 : Nat) (x1 : Int32) (x2 : Int32) (q : XS), RepX h s → X_TextReader_settle_70 F r10 s x0 x1 x2 = some q → ∃ h2, M_TextReader_settle_70 F m10 h x0 x1 x2 = some h2 ∧ RepX h2 q := by
  intro h s x0 x1 x2 q R hN
  unfold X_TextReader_settle_70 at hN
  unfold M_TextReader_settle_70
  exact P10 _ _ _ _ _ _ R hN
set_option maxHeartbeats 1000000 in
set_option maxRecDepth 100000 in
theorem bx_TextReader_settle_10 {F : Nat} {m10 : hH → Nat → Int32 → Int32 → Option hH} {r10 : XS → Nat → Int32 → Int32 → Option XS} (P10 : ∀ (h : hH) (s : XS) (x0 : Nat) (x1 : Int32) (x2 : Int32) (q : XS), RepX h s → r10 s x0 x1 x2 = some q → ∃ h2, m10 h x0 x1 x2 = some h2 ∧ RepX h2 q) : ∀ (h : hH) (s : XS) (x0 : Nat) (x1 : Int32) (x2 : Int32) (q : XS), RepX h s → BX_TextReader_settle_10 F r10 s x0 x1 x2 = some q → ∃ h2, B_TextReader_settle_10 F m10 h x0 x1 x2 = some h2 ∧ RepX h2 q := by
  intro h s x0 x1 x2 q R hN
  unfold BX_TextReader_settle_10 at hN
  unfold B_TextReader_settle_10
  refine ev_if (fun c1 => ?_) (fun c1 => ?_)
  · have hN := hif_t hN c1
    obtain rfl := Option.some.inj hN
    exact ⟨_, rfl, R⟩
  · have hN := hif_f hN c1
    obtain ⟨v2, ev2, hN⟩ := hb_some hN
    refine ev_b (xr_A R ev2) ?_
    obtain ⟨u3, eu3, hN⟩ := hb_some hN
    refine ev_b (xr_Is R eu3) ?_
    obtain ⟨q4, eq4, hN⟩ := hb_some hN
    obtain ⟨h5, eh5, R⟩ := x_Steps_kindAt R eq4
    refine ev_b eh5 ?_
    obtain ⟨q6, eq6, hN⟩ := hb_some hN
    obtain ⟨h7, eh7, R⟩ := x_TextReader_rankOf R eq6
    refine ev_b eh7 ?_
    refine ev_if (fun c8 => ?_) (fun c8 => ?_)
    · have hN := hif_t hN c8
      obtain ⟨v9, ev9, hN⟩ := hb_some hN
      refine ev_b (xr_A R ev9) ?_
      obtain ⟨v10, ev10, hN⟩ := hb_some hN
      refine ev_b (xr_A R ev10) ?_
      obtain ⟨u11, eu11, hN⟩ := hb_some hN
      refine ev_b (xr_Is R eu11) ?_
      obtain ⟨q12, eq12, hN⟩ := hb_some hN
      obtain ⟨h13, eh13, R⟩ := x_Steps_valueAt R eq12
      refine ev_b eh13 ?_
      obtain ⟨u14, eu14, hN⟩ := hb_some hN
      refine ev_b (xr_Is R eu14) ?_
      obtain ⟨q15, eq15, hN⟩ := hb_some hN
      obtain ⟨h16, eh16, R⟩ := x_Steps_add R eq15
      refine ev_b eh16 ?_
      obtain ⟨v17, ev17, hN⟩ := hb_some hN
      refine ev_b (xr_A R ev17) ?_
      obtain ⟨u18, eu18, hN⟩ := hb_some hN
      refine ev_b (xr_Is R eu18) ?_
      obtain ⟨q19, eq19, hN⟩ := hb_some hN
      obtain ⟨h20, eh20, R⟩ := x_Steps_removeLast R eq19
      refine ev_b eh20 ?_
      refine ev_if (fun c21 => ?_) (fun c21 => ?_)
      · have hN := hif_t hN c21
        obtain ⟨v22, ev22, hN⟩ := hb_some hN
        refine ev_b (xr_I R ev22) ?_
        obtain ⟨y23, ey23, hN⟩ := hb_some hN
        obtain ⟨h24, eh24, R⟩ := xw_I R ey23
        refine ev_b eh24 ?_
        exact x_TextReader_settle_70 P10 _ _ _ _ _ _ R hN
      · have hN := hif_f hN c21
        exact x_TextReader_settle_70 P10 _ _ _ _ _ _ R hN
    · have hN := hif_f hN c8
      obtain rfl := Option.some.inj hN
      exact ⟨_, rfl, R⟩
theorem x_TextReader_settle_10 {F : Nat} : ∀ z : Nat, ∀ (h : hH) (s : XS) (x0 : Nat) (x1 : Int32) (x2 : Int32) (q : XS), RepX h s → X_TextReader_settle_10 F z s x0 x1 x2 = some q → ∃ h2, M_TextReader_settle_10 F z h x0 x1 x2 = some h2 ∧ RepX h2 q := by
  intro z
  induction z with
  | zero => intro h s x0 x1 x2 q R hN; exact absurd (show (none : Option _) = some q from hN) (fun t => by cases t)
  | succ z ih => exact bx_TextReader_settle_10 ih
set_option maxHeartbeats 1000000 in
set_option maxRecDepth 100000 in
theorem x_TextReader_settle {F : Nat} {h : hH} {s : XS} {x0 : Nat} {x1 : Int32} {q : XS} (R : RepX h s) (hN : X_TextReader_settle F s x0 x1 = some q) : ∃ h2, M_TextReader_settle F h x0 x1 = some h2 ∧ RepX h2 q := by
  unfold X_TextReader_settle at hN
  unfold M_TextReader_settle
  obtain ⟨v1, ev1, hN⟩ := hb_some hN
  refine ev_b (xr_A R ev1) ?_
  obtain ⟨v2, ev2, hN⟩ := hb_some hN
  refine ev_b (xr_I R ev2) ?_
  exact x_TextReader_settle_10 F _ _ _ _ _ _ R hN
set_option maxHeartbeats 1000000 in
set_option maxRecDepth 100000 in
theorem x_TextReader_endAtom {F : Nat} {h : hH} {s : XS} {x0 : Nat} {q : XS} (R : RepX h s) (hN : X_TextReader_endAtom F s x0 = some q) : ∃ h2, M_TextReader_endAtom F h x0 = some h2 ∧ RepX h2 q := by
  unfold X_TextReader_endAtom at hN
  unfold M_TextReader_endAtom
  obtain ⟨u1, eu1, hN⟩ := hb_some hN
  refine ev_b (xr_Is R eu1) ?_
  obtain ⟨q2, eq2, hN⟩ := hb_some hN
  obtain ⟨h3, eh3, R⟩ := x_TextReader_settle R eq2
  refine ev_b eh3 ?_
  obtain ⟨y4, ey4, hN⟩ := hb_some hN
  obtain ⟨h5, eh5, R⟩ := xw_I R ey4
  refine ev_b eh5 ?_
  obtain rfl := Option.some.inj hN
  exact ⟨_, rfl, R⟩
set_option maxHeartbeats 1000000 in
set_option maxRecDepth 100000 in
theorem x_TextReader_waitAround {F : Nat} {h : hH} {s : XS} {x0 : Nat} {x1 : Int32} {x2 : Int32} {q : XS} (R : RepX h s) (hN : X_TextReader_waitAround F s x0 x1 x2 = some q) : ∃ h2, M_TextReader_waitAround F h x0 x1 x2 = some h2 ∧ RepX h2 q := by
  unfold X_TextReader_waitAround at hN
  unfold M_TextReader_waitAround
  obtain ⟨v1, ev1, hN⟩ := hb_some hN
  refine ev_b (xr_A R ev1) ?_
  obtain ⟨u2, eu2, hN⟩ := hb_some hN
  refine ev_b (xr_Is R eu2) ?_
  obtain ⟨q3, eq3, hN⟩ := hb_some hN
  obtain ⟨h4, eh4, R⟩ := x_Steps_add R eq3
  refine ev_b eh4 ?_
  obtain ⟨v5, ev5, hN⟩ := hb_some hN
  refine ev_b (xr_I R ev5) ?_
  obtain ⟨y6, ey6, hN⟩ := hb_some hN
  obtain ⟨h7, eh7, R⟩ := xw_I R ey6
  refine ev_b eh7 ?_
  obtain ⟨y8, ey8, hN⟩ := hb_some hN
  obtain ⟨h9, eh9, R⟩ := xw_I R ey8
  refine ev_b eh9 ?_
  obtain rfl := Option.some.inj hN
  exact ⟨_, rfl, R⟩
set_option maxHeartbeats 1000000 in
set_option maxRecDepth 100000 in
theorem x_TextReader_closeBracket {F : Nat} {h : hH} {s : XS} {x0 : Nat} {q : (Int32 × XS)} (R : RepX h s) (hN : X_TextReader_closeBracket F s x0 = some q) : ∃ h2, M_TextReader_closeBracket F h x0 = some (q.1, h2) ∧ RepX h2 q.2 := by
  unfold X_TextReader_closeBracket at hN
  unfold M_TextReader_closeBracket
  obtain ⟨u1, eu1, hN⟩ := hb_some hN
  refine ex_b (xr_Is R eu1) ?_
  obtain ⟨q2, eq2, hN⟩ := hb_some hN
  obtain ⟨h3, eh3, R⟩ := x_TextReader_settle R eq2
  refine ex_b eh3 ?_
  obtain ⟨v4, ev4, hN⟩ := hb_some hN
  refine ex_b (xr_A R ev4) ?_
  obtain ⟨v5, ev5, hN⟩ := hb_some hN
  refine ex_b (xr_A R ev5) ?_
  obtain ⟨v6, ev6, hN⟩ := hb_some hN
  refine ex_b (xr_I R ev6) ?_
  obtain ⟨u7, eu7, hN⟩ := hb_some hN
  refine ex_b (xr_Is R eu7) ?_
  obtain ⟨q8, eq8, hN⟩ := hb_some hN
  obtain ⟨h9, eh9, R⟩ := x_Steps_kindAt R eq8
  refine ex_b eh9 ?_
  refine ex_if (fun c10 => ?_) (fun c10 => ?_)
  · have hN := hif_t hN c10
    obtain ⟨v11, ev11, hN⟩ := hb_some hN
    refine ex_b (xr_A R ev11) ?_
    obtain ⟨u12, eu12, hN⟩ := hb_some hN
    refine ex_b (xr_Is R eu12) ?_
    obtain ⟨q13, eq13, hN⟩ := hb_some hN
    obtain ⟨h14, eh14, R⟩ := x_Steps_removeLast R eq13
    refine ex_b eh14 ?_
    obtain ⟨v15, ev15, hN⟩ := hb_some hN
    refine ex_b (xr_I R ev15) ?_
    obtain ⟨y16, ey16, hN⟩ := hb_some hN
    obtain ⟨h17, eh17, R⟩ := xw_I R ey16
    refine ex_b eh17 ?_
    obtain ⟨u18, eu18, hN⟩ := hb_some hN
    refine ex_b (xr_Is R eu18) ?_
    obtain ⟨q19, eq19, hN⟩ := hb_some hN
    obtain ⟨h20, eh20, R⟩ := x_TextReader_settle R eq19
    refine ex_b eh20 ?_
    obtain rfl := Option.some.inj hN
    exact ⟨_, rfl, R⟩
  · have hN := hif_f hN c10
    obtain rfl := Option.some.inj hN
    exact ⟨_, rfl, R⟩
set_option maxHeartbeats 1000000 in
set_option maxRecDepth 100000 in
theorem x_TextReader_operatorAt {F : Nat} {h : hH} {s : XS} {x0 : Nat} {x1 : Int32} {q : (Int32 × XS)} (R : RepX h s) (hN : X_TextReader_operatorAt F s x0 x1 = some q) : ∃ h2, M_TextReader_operatorAt F h x0 x1 = some (q.1, h2) ∧ RepX h2 q.2 := by
  unfold X_TextReader_operatorAt at hN
  unfold M_TextReader_operatorAt
  obtain ⟨v1, ev1, hN⟩ := hb_some hN
  refine ex_b (xr_A R ev1) ?_
  obtain ⟨u2, eu2, hN⟩ := hb_some hN
  refine ex_b (xr_Is R eu2) ?_
  obtain ⟨q3, eq3, hN⟩ := hb_some hN
  obtain ⟨h4, eh4, R⟩ := x_Words_is R eq3
  refine ex_b eh4 ?_
  refine ex_if (fun c5 => ?_) (fun c5 => ?_)
  · have hN := hif_t hN c5
    obtain ⟨v6, ev6, hN⟩ := hb_some hN
    refine ex_b (xr_A R ev6) ?_
    obtain ⟨u7, eu7, hN⟩ := hb_some hN
    refine ex_b (xr_Is R eu7) ?_
    obtain ⟨q8, eq8, hN⟩ := hb_some hN
    obtain ⟨h9, eh9, R⟩ := x_Words_is R eq8
    refine ex_b eh9 ?_
    refine ex_if (fun c10 => ?_) (fun c10 => ?_)
    · have hN := hif_t hN c10
      obtain ⟨v11, ev11, hN⟩ := hb_some hN
      refine ex_b (xr_A R ev11) ?_
      obtain ⟨u12, eu12, hN⟩ := hb_some hN
      refine ex_b (xr_Is R eu12) ?_
      obtain ⟨q13, eq13, hN⟩ := hb_some hN
      obtain ⟨h14, eh14, R⟩ := x_Words_is R eq13
      refine ex_b eh14 ?_
      refine ex_if (fun c15 => ?_) (fun c15 => ?_)
      · have hN := hif_t hN c15
        obtain ⟨v16, ev16, hN⟩ := hb_some hN
        refine ex_b (xr_A R ev16) ?_
        obtain ⟨u17, eu17, hN⟩ := hb_some hN
        refine ex_b (xr_Is R eu17) ?_
        obtain ⟨q18, eq18, hN⟩ := hb_some hN
        obtain ⟨h19, eh19, R⟩ := x_Words_is R eq18
        refine ex_b eh19 ?_
        refine ex_if (fun c20 => ?_) (fun c20 => ?_)
        · have hN := hif_t hN c20
          obtain ⟨v21, ev21, hN⟩ := hb_some hN
          refine ex_b (xr_A R ev21) ?_
          obtain ⟨u22, eu22, hN⟩ := hb_some hN
          refine ex_b (xr_Is R eu22) ?_
          obtain ⟨q23, eq23, hN⟩ := hb_some hN
          obtain ⟨h24, eh24, R⟩ := x_Words_is R eq23
          refine ex_b eh24 ?_
          refine ex_if (fun c25 => ?_) (fun c25 => ?_)
          · have hN := hif_t hN c25
            obtain rfl := Option.some.inj hN
            exact ⟨_, rfl, R⟩
          · have hN := hif_f hN c25
            obtain rfl := Option.some.inj hN
            exact ⟨_, rfl, R⟩
        · have hN := hif_f hN c20
          obtain rfl := Option.some.inj hN
          exact ⟨_, rfl, R⟩
      · have hN := hif_f hN c15
        obtain rfl := Option.some.inj hN
        exact ⟨_, rfl, R⟩
    · have hN := hif_f hN c10
      obtain rfl := Option.some.inj hN
      exact ⟨_, rfl, R⟩
  · have hN := hif_f hN c5
    obtain rfl := Option.some.inj hN
    exact ⟨_, rfl, R⟩
set_option maxHeartbeats 1000000 in
set_option maxRecDepth 100000 in
theorem x_TextReader_relationAt {F : Nat} {h : hH} {s : XS} {x0 : Nat} {x1 : Int32} {q : (Int32 × XS)} (R : RepX h s) (hN : X_TextReader_relationAt F s x0 x1 = some q) : ∃ h2, M_TextReader_relationAt F h x0 x1 = some (q.1, h2) ∧ RepX h2 q.2 := by
  unfold X_TextReader_relationAt at hN
  unfold M_TextReader_relationAt
  obtain ⟨v1, ev1, hN⟩ := hb_some hN
  refine ex_b (xr_A R ev1) ?_
  obtain ⟨u2, eu2, hN⟩ := hb_some hN
  refine ex_b (xr_Is R eu2) ?_
  obtain ⟨q3, eq3, hN⟩ := hb_some hN
  obtain ⟨h4, eh4, R⟩ := x_Words_is R eq3
  refine ex_b eh4 ?_
  refine ex_if (fun c5 => ?_) (fun c5 => ?_)
  · have hN := hif_t hN c5
    obtain ⟨v6, ev6, hN⟩ := hb_some hN
    refine ex_b (xr_A R ev6) ?_
    obtain ⟨u7, eu7, hN⟩ := hb_some hN
    refine ex_b (xr_Is R eu7) ?_
    obtain ⟨q8, eq8, hN⟩ := hb_some hN
    obtain ⟨h9, eh9, R⟩ := x_Words_is R eq8
    refine ex_b eh9 ?_
    refine ex_if (fun c10 => ?_) (fun c10 => ?_)
    · have hN := hif_t hN c10
      obtain ⟨v11, ev11, hN⟩ := hb_some hN
      refine ex_b (xr_A R ev11) ?_
      obtain ⟨u12, eu12, hN⟩ := hb_some hN
      refine ex_b (xr_Is R eu12) ?_
      obtain ⟨q13, eq13, hN⟩ := hb_some hN
      obtain ⟨h14, eh14, R⟩ := x_Words_is R eq13
      refine ex_b eh14 ?_
      refine ex_if (fun c15 => ?_) (fun c15 => ?_)
      · have hN := hif_t hN c15
        obtain ⟨v16, ev16, hN⟩ := hb_some hN
        refine ex_b (xr_A R ev16) ?_
        obtain ⟨u17, eu17, hN⟩ := hb_some hN
        refine ex_b (xr_Is R eu17) ?_
        obtain ⟨q18, eq18, hN⟩ := hb_some hN
        obtain ⟨h19, eh19, R⟩ := x_Words_is R eq18
        refine ex_b eh19 ?_
        refine ex_if (fun c20 => ?_) (fun c20 => ?_)
        · have hN := hif_t hN c20
          obtain rfl := Option.some.inj hN
          exact ⟨_, rfl, R⟩
        · have hN := hif_f hN c20
          obtain rfl := Option.some.inj hN
          exact ⟨_, rfl, R⟩
      · have hN := hif_f hN c15
        obtain rfl := Option.some.inj hN
        exact ⟨_, rfl, R⟩
    · have hN := hif_f hN c10
      obtain rfl := Option.some.inj hN
      exact ⟨_, rfl, R⟩
  · have hN := hif_f hN c5
    obtain rfl := Option.some.inj hN
    exact ⟨_, rfl, R⟩
set_option maxHeartbeats 1000000 in
set_option maxRecDepth 100000 in
theorem x_TextReader_takeNeed {F : Nat} {h : hH} {s : XS} {x0 : Nat} {x1 : Int32} {q : (Int32 × XS)} (R : RepX h s) (hN : X_TextReader_takeNeed F s x0 x1 = some q) : ∃ h2, M_TextReader_takeNeed F h x0 x1 = some (q.1, h2) ∧ RepX h2 q.2 := by
  unfold X_TextReader_takeNeed at hN
  unfold M_TextReader_takeNeed
  obtain ⟨v1, ev1, hN⟩ := hb_some hN
  refine ex_b (xr_A R ev1) ?_
  obtain ⟨u2, eu2, hN⟩ := hb_some hN
  refine ex_b (xr_Is R eu2) ?_
  obtain ⟨q3, eq3, hN⟩ := hb_some hN
  obtain ⟨h4, eh4, R⟩ := x_Words_is R eq3
  refine ex_b eh4 ?_
  refine ex_if (fun c5 => ?_) (fun c5 => ?_)
  · have hN := hif_t hN c5
    obtain rfl := Option.some.inj hN
    exact ⟨_, rfl, R⟩
  · have hN := hif_f hN c5
    obtain ⟨v6, ev6, hN⟩ := hb_some hN
    refine ex_b (xr_A R ev6) ?_
    obtain ⟨u7, eu7, hN⟩ := hb_some hN
    refine ex_b (xr_Is R eu7) ?_
    obtain ⟨q8, eq8, hN⟩ := hb_some hN
    obtain ⟨h9, eh9, R⟩ := x_Edition_beginNeed R eq8
    refine ex_b eh9 ?_
    obtain ⟨y10, ey10, hN⟩ := hb_some hN
    obtain ⟨h11, eh11, R⟩ := xw_I R ey10
    refine ex_b eh11 ?_
    obtain ⟨y12, ey12, hN⟩ := hb_some hN
    obtain ⟨h13, eh13, R⟩ := xw_I R ey12
    refine ex_b eh13 ?_
    obtain rfl := Option.some.inj hN
    exact ⟨_, rfl, R⟩
set_option maxHeartbeats 1000000 in
set_option maxRecDepth 100000 in
theorem x_TextReader_takeRuleEnd {F : Nat} {h : hH} {s : XS} {x0 : Nat} {x1 : Int32} {q : (Int32 × XS)} (R : RepX h s) (hN : X_TextReader_takeRuleEnd F s x0 x1 = some q) : ∃ h2, M_TextReader_takeRuleEnd F h x0 x1 = some (q.1, h2) ∧ RepX h2 q.2 := by
  unfold X_TextReader_takeRuleEnd at hN
  unfold M_TextReader_takeRuleEnd
  obtain ⟨v1, ev1, hN⟩ := hb_some hN
  refine ex_b (xr_A R ev1) ?_
  obtain ⟨u2, eu2, hN⟩ := hb_some hN
  refine ex_b (xr_Is R eu2) ?_
  obtain ⟨q3, eq3, hN⟩ := hb_some hN
  obtain ⟨h4, eh4, R⟩ := x_Words_is R eq3
  refine ex_b eh4 ?_
  refine ex_if (fun c5 => ?_) (fun c5 => ?_)
  · have hN := hif_t hN c5
    obtain rfl := Option.some.inj hN
    exact ⟨_, rfl, R⟩
  · have hN := hif_f hN c5
    obtain ⟨v6, ev6, hN⟩ := hb_some hN
    refine ex_b (xr_A R ev6) ?_
    obtain ⟨u7, eu7, hN⟩ := hb_some hN
    refine ex_b (xr_Is R eu7) ?_
    obtain ⟨q8, eq8, hN⟩ := hb_some hN
    obtain ⟨h9, eh9, R⟩ := x_Edition_endRule R eq8
    refine ex_b eh9 ?_
    obtain ⟨y10, ey10, hN⟩ := hb_some hN
    obtain ⟨h11, eh11, R⟩ := xw_I R ey10
    refine ex_b eh11 ?_
    obtain rfl := Option.some.inj hN
    exact ⟨_, rfl, R⟩
set_option maxHeartbeats 1000000 in
set_option maxRecDepth 100000 in
theorem x_TextReader_takeBehindAtom {F : Nat} {h : hH} {s : XS} {x0 : Nat} {x1 : Int32} {q : (Int32 × XS)} (R : RepX h s) (hN : X_TextReader_takeBehindAtom F s x0 x1 = some q) : ∃ h2, M_TextReader_takeBehindAtom F h x0 x1 = some (q.1, h2) ∧ RepX h2 q.2 := by
  unfold X_TextReader_takeBehindAtom at hN
  unfold M_TextReader_takeBehindAtom
  obtain ⟨u1, eu1, hN⟩ := hb_some hN
  refine ex_b (xr_Is R eu1) ?_
  obtain ⟨q2, eq2, hN⟩ := hb_some hN
  obtain ⟨h3, eh3, R⟩ := x_TextReader_operatorAt R eq2
  refine ex_b eh3 ?_
  refine ex_if (fun c4 => ?_) (fun c4 => ?_)
  · have hN := hif_t hN c4
    obtain ⟨v5, ev5, hN⟩ := hb_some hN
    refine ex_b (xr_I R ev5) ?_
    refine ex_if (fun c6 => ?_) (fun c6 => ?_)
    · have hN := hif_t hN c6
      obtain ⟨u7, eu7, hN⟩ := hb_some hN
      refine ex_b (xr_Is R eu7) ?_
      obtain ⟨q8, eq8, hN⟩ := hb_some hN
      obtain ⟨h9, eh9, R⟩ := x_TextReader_settle R eq8
      refine ex_b eh9 ?_
      obtain ⟨v10, ev10, hN⟩ := hb_some hN
      refine ex_b (xr_I R ev10) ?_
      refine ex_if (fun c11 => ?_) (fun c11 => ?_)
      · have hN := hif_t hN c11
        obtain ⟨u36, eu36, hN⟩ := hb_some hN
        refine ex_b (xr_Is R eu36) ?_
        obtain ⟨q37, eq37, hN⟩ := hb_some hN
        obtain ⟨h38, eh38, R⟩ := x_TextReader_relationAt R eq37
        refine ex_b eh38 ?_
        obtain ⟨y39, ey39, hN⟩ := hb_some hN
        obtain ⟨h40, eh40, R⟩ := xw_I R ey39
        refine ex_b eh40 ?_
        obtain ⟨y41, ey41, hN⟩ := hb_some hN
        obtain ⟨h42, eh42, R⟩ := xw_I R ey41
        refine ex_b eh42 ?_
        obtain ⟨v43, ev43, hN⟩ := hb_some hN
        refine ex_b (xr_I R ev43) ?_
        refine ex_if (fun c44 => ?_) (fun c44 => ?_)
        · have hN := hif_t hN c44
          obtain rfl := Option.some.inj hN
          exact ⟨_, rfl, R⟩
        · have hN := hif_f hN c44
          obtain rfl := Option.some.inj hN
          exact ⟨_, rfl, R⟩
      · have hN := hif_f hN c11
        obtain ⟨v12, ev12, hN⟩ := hb_some hN
        refine ex_b (xr_A R ev12) ?_
        obtain ⟨v13, ev13, hN⟩ := hb_some hN
        refine ex_b (xr_I R ev13) ?_
        obtain ⟨u14, eu14, hN⟩ := hb_some hN
        refine ex_b (xr_Is R eu14) ?_
        obtain ⟨q15, eq15, hN⟩ := hb_some hN
        obtain ⟨h16, eh16, R⟩ := x_Steps_add R eq15
        refine ex_b eh16 ?_
        obtain ⟨y17, ey17, hN⟩ := hb_some hN
        obtain ⟨h18, eh18, R⟩ := xw_I R ey17
        refine ex_b eh18 ?_
        obtain ⟨v19, ev19, hN⟩ := hb_some hN
        refine ex_b (xr_A R ev19) ?_
        obtain ⟨u20, eu20, hN⟩ := hb_some hN
        refine ex_b (xr_Is R eu20) ?_
        obtain ⟨q21, eq21, hN⟩ := hb_some hN
        obtain ⟨h22, eh22, R⟩ := x_Words_is R eq21
        refine ex_b eh22 ?_
        refine ex_if (fun c23 => ?_) (fun c23 => ?_)
        · have hN := hif_t hN c23
          obtain ⟨v24, ev24, hN⟩ := hb_some hN
          refine ex_b (xr_I R ev24) ?_
          refine ex_if (fun c25 => ?_) (fun c25 => ?_)
          · have hN := hif_t hN c25
            obtain ⟨u26, eu26, hN⟩ := hb_some hN
            refine ex_b (xr_Is R eu26) ?_
            obtain ⟨q27, eq27, hN⟩ := hb_some hN
            obtain ⟨h28, eh28, R⟩ := x_TextReader_takeRuleEnd R eq27
            refine ex_b eh28 ?_
            obtain ⟨u29, eu29, hN⟩ := hb_some hN
            refine ex_b eu29 ?_
            obtain rfl := Option.some.inj hN
            exact ⟨_, rfl, R⟩
          · have hN := hif_f hN c25
            obtain ⟨u30, eu30, hN⟩ := hb_some hN
            refine ex_b (xr_Is R eu30) ?_
            obtain ⟨q31, eq31, hN⟩ := hb_some hN
            obtain ⟨h32, eh32, R⟩ := x_TextReader_takeNeed R eq31
            refine ex_b eh32 ?_
            obtain ⟨u33, eu33, hN⟩ := hb_some hN
            refine ex_b eu33 ?_
            obtain rfl := Option.some.inj hN
            exact ⟨_, rfl, R⟩
        · have hN := hif_f hN c23
          obtain ⟨y34, ey34, hN⟩ := hb_some hN
          obtain ⟨h35, eh35, R⟩ := xw_I R ey34
          refine ex_b eh35 ?_
          obtain rfl := Option.some.inj hN
          exact ⟨_, rfl, R⟩
    · have hN := hif_f hN c6
      obtain ⟨v45, ev45, hN⟩ := hb_some hN
      refine ex_b (xr_A R ev45) ?_
      obtain ⟨u46, eu46, hN⟩ := hb_some hN
      refine ex_b (xr_Is R eu46) ?_
      obtain ⟨q47, eq47, hN⟩ := hb_some hN
      obtain ⟨h48, eh48, R⟩ := x_Words_is R eq47
      refine ex_b eh48 ?_
      refine ex_if (fun c49 => ?_) (fun c49 => ?_)
      · have hN := hif_t hN c49
        obtain rfl := Option.some.inj hN
        exact ⟨_, rfl, R⟩
      · have hN := hif_f hN c49
        obtain ⟨u50, eu50, hN⟩ := hb_some hN
        refine ex_b (xr_Is R eu50) ?_
        obtain ⟨q51, eq51, hN⟩ := hb_some hN
        obtain ⟨h52, eh52, R⟩ := x_TextReader_closeBracket R eq51
        refine ex_b eh52 ?_
        refine ex_if (fun c53 => ?_) (fun c53 => ?_)
        · have hN := hif_t hN c53
          obtain rfl := Option.some.inj hN
          exact ⟨_, rfl, R⟩
        · have hN := hif_f hN c53
          obtain rfl := Option.some.inj hN
          exact ⟨_, rfl, R⟩
  · have hN := hif_f hN c4
    obtain ⟨q54, eq54, hN⟩ := hb_some hN
    obtain ⟨h55, eh55, R⟩ := x_TextReader_rankOf R eq54
    refine ex_b eh55 ?_
    obtain ⟨u56, eu56, hN⟩ := hb_some hN
    refine ex_b (xr_Is R eu56) ?_
    obtain ⟨q57, eq57, hN⟩ := hb_some hN
    obtain ⟨h58, eh58, R⟩ := x_TextReader_settle R eq57
    refine ex_b eh58 ?_
    obtain ⟨v59, ev59, hN⟩ := hb_some hN
    refine ex_b (xr_A R ev59) ?_
    obtain ⟨u60, eu60, hN⟩ := hb_some hN
    refine ex_b (xr_Is R eu60) ?_
    obtain ⟨q61, eq61, hN⟩ := hb_some hN
    obtain ⟨h62, eh62, R⟩ := x_Steps_add R eq61
    refine ex_b eh62 ?_
    obtain ⟨y63, ey63, hN⟩ := hb_some hN
    obtain ⟨h64, eh64, R⟩ := xw_I R ey63
    refine ex_b eh64 ?_
    obtain rfl := Option.some.inj hN
    exact ⟨_, rfl, R⟩
set_option maxHeartbeats 1000000 in
set_option maxRecDepth 100000 in
theorem x_TextReader_takeTableName {F : Nat} {h : hH} {s : XS} {x0 : Nat} {x1 : Int32} {q : (Int32 × XS)} (R : RepX h s) (hN : X_TextReader_takeTableName F s x0 x1 = some q) : ∃ h2, M_TextReader_takeTableName F h x0 x1 = some (q.1, h2) ∧ RepX h2 q.2 := by
  unfold X_TextReader_takeTableName at hN
  unfold M_TextReader_takeTableName
  obtain ⟨v1, ev1, hN⟩ := hb_some hN
  refine ex_b (xr_A R ev1) ?_
  obtain ⟨u2, eu2, hN⟩ := hb_some hN
  refine ex_b (xr_Is R eu2) ?_
  obtain ⟨q3, eq3, hN⟩ := hb_some hN
  obtain ⟨h4, eh4, R⟩ := x_Words_numberAt R eq3
  refine ex_b eh4 ?_
  refine ex_if (fun c5 => ?_) (fun c5 => ?_)
  · have hN := hif_t hN c5
    obtain rfl := Option.some.inj hN
    exact ⟨_, rfl, R⟩
  · have hN := hif_f hN c5
    obtain ⟨v6, ev6, hN⟩ := hb_some hN
    refine ex_b (xr_A R ev6) ?_
    obtain ⟨v7, ev7, hN⟩ := hb_some hN
    refine ex_b (xr_A R ev7) ?_
    obtain ⟨v8, ev8, hN⟩ := hb_some hN
    refine ex_b (xr_I R ev8) ?_
    refine ex_if (fun c9 => ?_) (fun c9 => ?_)
    · have hN := hif_t hN c9
      obtain ⟨u10, eu10, hN⟩ := hb_some hN
      refine ex_b (xr_Is R eu10) ?_
      obtain ⟨q11, eq11, hN⟩ := hb_some hN
      obtain ⟨h12, eh12, R⟩ := x_TextReader_waitAround R eq11
      refine ex_b eh12 ?_
      obtain rfl := Option.some.inj hN
      exact ⟨_, rfl, R⟩
    · have hN := hif_f hN c9
      obtain rfl := Option.some.inj hN
      exact ⟨_, rfl, R⟩
set_option maxHeartbeats 1000000 in
set_option maxRecDepth 100000 in
theorem x_TextReader_takeFactName {F : Nat} {h : hH} {s : XS} {x0 : Nat} {x1 : Int32} {q : (Int32 × XS)} (R : RepX h s) (hN : X_TextReader_takeFactName F s x0 x1 = some q) : ∃ h2, M_TextReader_takeFactName F h x0 x1 = some (q.1, h2) ∧ RepX h2 q.2 := by
  unfold X_TextReader_takeFactName at hN
  unfold M_TextReader_takeFactName
  obtain ⟨v1, ev1, hN⟩ := hb_some hN
  refine ex_b (xr_A R ev1) ?_
  obtain ⟨u2, eu2, hN⟩ := hb_some hN
  refine ex_b (xr_Is R eu2) ?_
  obtain ⟨q3, eq3, hN⟩ := hb_some hN
  obtain ⟨h4, eh4, R⟩ := x_Words_numberAt R eq3
  refine ex_b eh4 ?_
  refine ex_if (fun c5 => ?_) (fun c5 => ?_)
  · have hN := hif_t hN c5
    obtain rfl := Option.some.inj hN
    exact ⟨_, rfl, R⟩
  · have hN := hif_f hN c5
    refine ex_if (fun c6 => ?_) (fun c6 => ?_)
    · have hN := hif_t hN c6
      obtain ⟨v7, ev7, hN⟩ := hb_some hN
      refine ex_b (xr_A R ev7) ?_
      obtain ⟨u8, eu8, hN⟩ := hb_some hN
      refine ex_b (xr_Is R eu8) ?_
      obtain ⟨q9, eq9, hN⟩ := hb_some hN
      obtain ⟨h10, eh10, R⟩ := x_Steps_add R eq9
      refine ex_b eh10 ?_
      obtain ⟨u11, eu11, hN⟩ := hb_some hN
      refine ex_b (xr_Is R eu11) ?_
      obtain ⟨q12, eq12, hN⟩ := hb_some hN
      obtain ⟨h13, eh13, R⟩ := x_TextReader_endAtom R eq12
      refine ex_b eh13 ?_
      obtain rfl := Option.some.inj hN
      exact ⟨_, rfl, R⟩
    · have hN := hif_f hN c6
      obtain rfl := Option.some.inj hN
      exact ⟨_, rfl, R⟩
set_option maxHeartbeats 1000000 in
set_option maxRecDepth 100000 in
theorem x_TextReader_takeAtom {F : Nat} {h : hH} {s : XS} {x0 : Nat} {x1 : Int32} {q : (Int32 × XS)} (R : RepX h s) (hN : X_TextReader_takeAtom F s x0 x1 = some q) : ∃ h2, M_TextReader_takeAtom F h x0 x1 = some (q.1, h2) ∧ RepX h2 q.2 := by
  unfold X_TextReader_takeAtom at hN
  unfold M_TextReader_takeAtom
  obtain ⟨v1, ev1, hN⟩ := hb_some hN
  refine ex_b (xr_I R ev1) ?_
  refine ex_if (fun c2 => ?_) (fun c2 => ?_)
  · have hN := hif_t hN c2
    obtain ⟨v3, ev3, hN⟩ := hb_some hN
    refine ex_b (xr_A R ev3) ?_
    obtain ⟨u4, eu4, hN⟩ := hb_some hN
    refine ex_b (xr_Is R eu4) ?_
    obtain ⟨q5, eq5, hN⟩ := hb_some hN
    obtain ⟨h6, eh6, R⟩ := x_Words_numberAt R eq5
    refine ex_b eh6 ?_
    refine ex_if (fun c7 => ?_) (fun c7 => ?_)
    · have hN := hif_t hN c7
      obtain ⟨v8, ev8, hN⟩ := hb_some hN
      refine ex_b (xr_A R ev8) ?_
      obtain ⟨u9, eu9, hN⟩ := hb_some hN
      refine ex_b (xr_Is R eu9) ?_
      obtain ⟨q10, eq10, hN⟩ := hb_some hN
      obtain ⟨h11, eh11, R⟩ := x_Words_is R eq10
      refine ex_b eh11 ?_
      refine ex_if (fun c12 => ?_) (fun c12 => ?_)
      · have hN := hif_t hN c12
        obtain ⟨v13, ev13, hN⟩ := hb_some hN
        refine ex_b (xr_A R ev13) ?_
        obtain ⟨u14, eu14, hN⟩ := hb_some hN
        refine ex_b (xr_Is R eu14) ?_
        obtain ⟨q15, eq15, hN⟩ := hb_some hN
        obtain ⟨h16, eh16, R⟩ := x_Words_is R eq15
        refine ex_b eh16 ?_
        refine ex_if (fun c17 => ?_) (fun c17 => ?_)
        · have hN := hif_t hN c17
          obtain ⟨v18, ev18, hN⟩ := hb_some hN
          refine ex_b (xr_A R ev18) ?_
          obtain ⟨u19, eu19, hN⟩ := hb_some hN
          refine ex_b (xr_Is R eu19) ?_
          obtain ⟨q20, eq20, hN⟩ := hb_some hN
          obtain ⟨h21, eh21, R⟩ := x_Words_is R eq20
          refine ex_b eh21 ?_
          refine ex_if (fun c22 => ?_) (fun c22 => ?_)
          · have hN := hif_t hN c22
            obtain rfl := Option.some.inj hN
            exact ⟨_, rfl, R⟩
          · have hN := hif_f hN c22
            obtain ⟨u23, eu23, hN⟩ := hb_some hN
            refine ex_b (xr_Is R eu23) ?_
            obtain ⟨q24, eq24, hN⟩ := hb_some hN
            obtain ⟨h25, eh25, R⟩ := x_TextReader_waitAround R eq24
            refine ex_b eh25 ?_
            obtain rfl := Option.some.inj hN
            exact ⟨_, rfl, R⟩
        · have hN := hif_f hN c17
          obtain ⟨y26, ey26, hN⟩ := hb_some hN
          obtain ⟨h27, eh27, R⟩ := xw_I R ey26
          refine ex_b eh27 ?_
          obtain rfl := Option.some.inj hN
          exact ⟨_, rfl, R⟩
      · have hN := hif_f hN c12
        obtain ⟨y28, ey28, hN⟩ := hb_some hN
        obtain ⟨h29, eh29, R⟩ := xw_I R ey28
        refine ex_b eh29 ?_
        obtain rfl := Option.some.inj hN
        exact ⟨_, rfl, R⟩
    · have hN := hif_f hN c7
      obtain ⟨v30, ev30, hN⟩ := hb_some hN
      refine ex_b (xr_A R ev30) ?_
      obtain ⟨u31, eu31, hN⟩ := hb_some hN
      refine ex_b (xr_Is R eu31) ?_
      obtain ⟨q32, eq32, hN⟩ := hb_some hN
      obtain ⟨h33, eh33, R⟩ := x_Steps_add R eq32
      refine ex_b eh33 ?_
      obtain ⟨u34, eu34, hN⟩ := hb_some hN
      refine ex_b (xr_Is R eu34) ?_
      obtain ⟨q35, eq35, hN⟩ := hb_some hN
      obtain ⟨h36, eh36, R⟩ := x_TextReader_endAtom R eq35
      refine ex_b eh36 ?_
      obtain rfl := Option.some.inj hN
      exact ⟨_, rfl, R⟩
  · have hN := hif_f hN c2
    obtain rfl := Option.some.inj hN
    exact ⟨_, rfl, R⟩
set_option maxHeartbeats 1000000 in
set_option maxRecDepth 100000 in
theorem x_TextReader_takeTableNumber {F : Nat} {h : hH} {s : XS} {x0 : Nat} {x1 : Int32} {q : (Int32 × XS)} (R : RepX h s) (hN : X_TextReader_takeTableNumber F s x0 x1 = some q) : ∃ h2, M_TextReader_takeTableNumber F h x0 x1 = some (q.1, h2) ∧ RepX h2 q.2 := by
  unfold X_TextReader_takeTableNumber at hN
  unfold M_TextReader_takeTableNumber
  obtain ⟨v1, ev1, hN⟩ := hb_some hN
  refine ex_b (xr_A R ev1) ?_
  obtain ⟨u2, eu2, hN⟩ := hb_some hN
  refine ex_b (xr_Is R eu2) ?_
  obtain ⟨q3, eq3, hN⟩ := hb_some hN
  obtain ⟨h4, eh4, R⟩ := x_Words_is R eq3
  refine ex_b eh4 ?_
  refine ex_if (fun c5 => ?_) (fun c5 => ?_)
  · have hN := hif_t hN c5
    obtain ⟨v6, ev6, hN⟩ := hb_some hN
    refine ex_b (xr_A R ev6) ?_
    obtain ⟨u7, eu7, hN⟩ := hb_some hN
    refine ex_b (xr_Is R eu7) ?_
    obtain ⟨q8, eq8, hN⟩ := hb_some hN
    obtain ⟨h9, eh9, R⟩ := x_Words_numberAt R eq8
    refine ex_b eh9 ?_
    refine ex_if (fun c10 => ?_) (fun c10 => ?_)
    · have hN := hif_t hN c10
      obtain rfl := Option.some.inj hN
      exact ⟨_, rfl, R⟩
    · have hN := hif_f hN c10
      obtain ⟨v11, ev11, hN⟩ := hb_some hN
      refine ex_b (xr_A R ev11) ?_
      obtain ⟨v12, ev12, hN⟩ := hb_some hN
      refine ex_b (xr_A R ev12) ?_
      obtain ⟨u13, eu13, hN⟩ := hb_some hN
      refine ex_b (xr_Is R eu13) ?_
      obtain ⟨q14, eq14, hN⟩ := hb_some hN
      obtain ⟨h15, eh15, R⟩ := x_Tables_addNumber R eq14
      refine ex_b eh15 ?_
      refine ex_if (fun c16 => ?_) (fun c16 => ?_)
      · have hN := hif_t hN c16
        obtain rfl := Option.some.inj hN
        exact ⟨_, rfl, R⟩
      · have hN := hif_f hN c16
        obtain rfl := Option.some.inj hN
        exact ⟨_, rfl, R⟩
  · have hN := hif_f hN c5
    obtain ⟨y17, ey17, hN⟩ := hb_some hN
    obtain ⟨h18, eh18, R⟩ := xw_I R ey17
    refine ex_b eh18 ?_
    obtain ⟨v19, ev19, hN⟩ := hb_some hN
    refine ex_b (xr_A R ev19) ?_
    obtain ⟨v20, ev20, hN⟩ := hb_some hN
    refine ex_b (xr_A R ev20) ?_
    obtain ⟨u21, eu21, hN⟩ := hb_some hN
    refine ex_b (xr_Is R eu21) ?_
    obtain ⟨q22, eq22, hN⟩ := hb_some hN
    obtain ⟨h23, eh23, R⟩ := x_Tables_lastSize R eq22
    refine ex_b eh23 ?_
    refine ex_if (fun c24 => ?_) (fun c24 => ?_)
    · have hN := hif_t hN c24
      obtain rfl := Option.some.inj hN
      exact ⟨_, rfl, R⟩
    · have hN := hif_f hN c24
      obtain rfl := Option.some.inj hN
      exact ⟨_, rfl, R⟩
set_option maxHeartbeats 1000000 in
set_option maxRecDepth 100000 in
theorem x_TextReader_takeItem_68 {F : Nat} : ∀ (h : hH) (s : XS) (x0 : Nat) (x1 : Int32) (q : (Int32 × XS)), RepX h s → X_TextReader_takeItem_68 F s x0 x1 = some q → ∃ h2, M_TextReader_takeItem_68 F h x0 x1 = some (q.1, h2) ∧ RepX h2 q.2 := by
  intro h s x0 x1 q R hN
  unfold X_TextReader_takeItem_68 at hN
  unfold M_TextReader_takeItem_68
  obtain ⟨v1, ev1, hN⟩ := hb_some hN
  refine ex_b (xr_A R ev1) ?_
  obtain ⟨u2, eu2, hN⟩ := hb_some hN
  refine ex_b (xr_Is R eu2) ?_
  obtain ⟨q3, eq3, hN⟩ := hb_some hN
  obtain ⟨h4, eh4, R⟩ := x_Edition_beginRule R eq3
  refine ex_b eh4 ?_
  refine ex_if (fun c5 => ?_) (fun c5 => ?_)
  · have hN := hif_t hN c5
    obtain rfl := Option.some.inj hN
    exact ⟨_, rfl, R⟩
  · have hN := hif_f hN c5
    obtain rfl := Option.some.inj hN
    exact ⟨_, rfl, R⟩
set_option maxHeartbeats 1000000 in
set_option maxRecDepth 100000 in
theorem x_TextReader_takeItem {F : Nat} {h : hH} {s : XS} {x0 : Nat} {x1 : Int32} {q : (Int32 × XS)} (R : RepX h s) (hN : X_TextReader_takeItem F s x0 x1 = some q) : ∃ h2, M_TextReader_takeItem F h x0 x1 = some (q.1, h2) ∧ RepX h2 q.2 := by
  unfold X_TextReader_takeItem at hN
  unfold M_TextReader_takeItem
  obtain ⟨v1, ev1, hN⟩ := hb_some hN
  refine ex_b (xr_A R ev1) ?_
  obtain ⟨u2, eu2, hN⟩ := hb_some hN
  refine ex_b (xr_Is R eu2) ?_
  obtain ⟨q3, eq3, hN⟩ := hb_some hN
  obtain ⟨h4, eh4, R⟩ := x_Words_is R eq3
  refine ex_b eh4 ?_
  refine ex_if (fun c5 => ?_) (fun c5 => ?_)
  · have hN := hif_t hN c5
    obtain ⟨v6, ev6, hN⟩ := hb_some hN
    refine ex_b (xr_A R ev6) ?_
    obtain ⟨u7, eu7, hN⟩ := hb_some hN
    refine ex_b (xr_Is R eu7) ?_
    obtain ⟨q8, eq8, hN⟩ := hb_some hN
    obtain ⟨h9, eh9, R⟩ := x_Words_is R eq8
    refine ex_b eh9 ?_
    obtain ⟨y10, ey10, hN⟩ := hb_some hN
    obtain ⟨h11, eh11, R⟩ := xw_Z R ey10
    refine ex_b eh11 ?_
    obtain ⟨y12, ey12, hN⟩ := hb_some hN
    obtain ⟨h13, eh13, R⟩ := xw_I R ey12
    refine ex_b eh13 ?_
    obtain ⟨v14, ev14, hN⟩ := hb_some hN
    refine ex_b (xr_I R ev14) ?_
    refine ex_if (fun c15 => ?_) (fun c15 => ?_)
    · have hN := hif_t hN c15
      obtain ⟨v16, ev16, hN⟩ := hb_some hN
      refine ex_b (xr_A R ev16) ?_
      obtain ⟨u17, eu17, hN⟩ := hb_some hN
      refine ex_b (xr_Is R eu17) ?_
      obtain ⟨q18, eq18, hN⟩ := hb_some hN
      obtain ⟨h19, eh19, R⟩ := x_Words_is R eq18
      refine ex_b eh19 ?_
      refine ex_if (fun c20 => ?_) (fun c20 => ?_)
      · have hN := hif_t hN c20
        obtain rfl := Option.some.inj hN
        exact ⟨_, rfl, R⟩
      · have hN := hif_f hN c20
        exact x_TextReader_takeItem_68 _ _ _ _ _ R hN
    · have hN := hif_f hN c15
      exact x_TextReader_takeItem_68 _ _ _ _ _ R hN
  · have hN := hif_f hN c5
    obtain ⟨y21, ey21, hN⟩ := hb_some hN
    obtain ⟨h22, eh22, R⟩ := xw_I R ey21
    refine ex_b eh22 ?_
    obtain ⟨v23, ev23, hN⟩ := hb_some hN
    refine ex_b (xr_A R ev23) ?_
    obtain ⟨v24, ev24, hN⟩ := hb_some hN
    refine ex_b (xr_A R ev24) ?_
    obtain ⟨u25, eu25, hN⟩ := hb_some hN
    refine ex_b (xr_Is R eu25) ?_
    obtain ⟨q26, eq26, hN⟩ := hb_some hN
    obtain ⟨h27, eh27, R⟩ := x_Tables_begin R eq26
    refine ex_b eh27 ?_
    obtain ⟨u28, eu28, hN⟩ := hb_some hN
    refine ex_b eu28 ?_
    obtain rfl := Option.some.inj hN
    exact ⟨_, rfl, R⟩
set_option maxHeartbeats 1000000 in
set_option maxRecDepth 100000 in
theorem x_TextReader_take {F : Nat} {h : hH} {s : XS} {x0 : Nat} {x1 : Int32} {q : (Int32 × XS)} (R : RepX h s) (hN : X_TextReader_take F s x0 x1 = some q) : ∃ h2, M_TextReader_take F h x0 x1 = some (q.1, h2) ∧ RepX h2 q.2 := by
  unfold X_TextReader_take at hN
  unfold M_TextReader_take
  obtain ⟨v1, ev1, hN⟩ := hb_some hN
  refine ex_b (xr_I R ev1) ?_
  refine ex_if (fun c2 => ?_) (fun c2 => ?_)
  · have hN := hif_t hN c2
    obtain ⟨u3, eu3, hN⟩ := hb_some hN
    refine ex_b (xr_Is R eu3) ?_
    obtain ⟨q4, eq4, hN⟩ := hb_some hN
    obtain ⟨h5, eh5, R⟩ := x_TextReader_takeItem R eq4
    refine ex_b eh5 ?_
    obtain ⟨u6, eu6, hN⟩ := hb_some hN
    refine ex_b eu6 ?_
    obtain rfl := Option.some.inj hN
    exact ⟨_, rfl, R⟩
  · have hN := hif_f hN c2
    refine ex_if (fun c7 => ?_) (fun c7 => ?_)
    · have hN := hif_t hN c7
      obtain ⟨u8, eu8, hN⟩ := hb_some hN
      refine ex_b (xr_Is R eu8) ?_
      obtain ⟨q9, eq9, hN⟩ := hb_some hN
      obtain ⟨h10, eh10, R⟩ := x_TextReader_takeTableNumber R eq9
      refine ex_b eh10 ?_
      obtain ⟨u11, eu11, hN⟩ := hb_some hN
      refine ex_b eu11 ?_
      obtain rfl := Option.some.inj hN
      exact ⟨_, rfl, R⟩
    · have hN := hif_f hN c7
      refine ex_if (fun c12 => ?_) (fun c12 => ?_)
      · have hN := hif_t hN c12
        obtain ⟨u13, eu13, hN⟩ := hb_some hN
        refine ex_b (xr_Is R eu13) ?_
        obtain ⟨q14, eq14, hN⟩ := hb_some hN
        obtain ⟨h15, eh15, R⟩ := x_TextReader_takeAtom R eq14
        refine ex_b eh15 ?_
        obtain ⟨u16, eu16, hN⟩ := hb_some hN
        refine ex_b eu16 ?_
        obtain rfl := Option.some.inj hN
        exact ⟨_, rfl, R⟩
      · have hN := hif_f hN c12
        refine ex_if (fun c17 => ?_) (fun c17 => ?_)
        · have hN := hif_t hN c17
          obtain ⟨u18, eu18, hN⟩ := hb_some hN
          refine ex_b (xr_Is R eu18) ?_
          obtain ⟨q19, eq19, hN⟩ := hb_some hN
          obtain ⟨h20, eh20, R⟩ := x_TextReader_takeFactName R eq19
          refine ex_b eh20 ?_
          obtain ⟨u21, eu21, hN⟩ := hb_some hN
          refine ex_b eu21 ?_
          obtain rfl := Option.some.inj hN
          exact ⟨_, rfl, R⟩
        · have hN := hif_f hN c17
          refine ex_if (fun c22 => ?_) (fun c22 => ?_)
          · have hN := hif_t hN c22
            obtain ⟨u23, eu23, hN⟩ := hb_some hN
            refine ex_b (xr_Is R eu23) ?_
            obtain ⟨q24, eq24, hN⟩ := hb_some hN
            obtain ⟨h25, eh25, R⟩ := x_TextReader_takeTableName R eq24
            refine ex_b eh25 ?_
            obtain ⟨u26, eu26, hN⟩ := hb_some hN
            refine ex_b eu26 ?_
            obtain rfl := Option.some.inj hN
            exact ⟨_, rfl, R⟩
          · have hN := hif_f hN c22
            obtain ⟨u27, eu27, hN⟩ := hb_some hN
            refine ex_b (xr_Is R eu27) ?_
            obtain ⟨q28, eq28, hN⟩ := hb_some hN
            obtain ⟨h29, eh29, R⟩ := x_TextReader_takeBehindAtom R eq28
            refine ex_b eh29 ?_
            obtain ⟨u30, eu30, hN⟩ := hb_some hN
            refine ex_b eu30 ?_
            obtain rfl := Option.some.inj hN
            exact ⟨_, rfl, R⟩
set_option maxHeartbeats 1000000 in
set_option maxRecDepth 100000 in
theorem x_TextReader_begin {F : Nat} {h : hH} {s : XS} {x0 : Nat} {x1 : Nat} {q : XS} (R : RepX h s) (hN : X_TextReader_begin F s x0 x1 = some q) : ∃ h2, M_TextReader_begin F h x0 x1 = some h2 ∧ RepX h2 q := by
  unfold X_TextReader_begin at hN
  unfold M_TextReader_begin
  obtain ⟨y1, ey1, hN⟩ := hb_some hN
  obtain ⟨h2, eh2, R⟩ := xw_R R ey1
  refine ev_b eh2 ?_
  obtain ⟨v3, ev3, hN⟩ := hb_some hN
  refine ev_b (xr_A R ev3) ?_
  obtain ⟨y4, ey4, hN⟩ := hb_some hN
  obtain ⟨h5, eh5, R⟩ := xw_R R ey4
  refine ev_b eh5 ?_
  obtain ⟨v6, ev6, hN⟩ := hb_some hN
  refine ev_b (xr_A R ev6) ?_
  obtain ⟨y7, ey7, hN⟩ := hb_some hN
  obtain ⟨h8, eh8, R⟩ := xw_R R ey7
  refine ev_b eh8 ?_
  obtain ⟨v9, ev9, hN⟩ := hb_some hN
  refine ev_b (xr_A R ev9) ?_
  obtain ⟨u10, eu10, hN⟩ := hb_some hN
  refine ev_b (xr_Is R eu10) ?_
  obtain ⟨q11, eq11, hN⟩ := hb_some hN
  obtain ⟨h12, eh12, R⟩ := x_Steps_clear R eq11
  refine ev_b eh12 ?_
  obtain ⟨y13, ey13, hN⟩ := hb_some hN
  obtain ⟨h14, eh14, R⟩ := xw_I R ey13
  refine ev_b eh14 ?_
  obtain ⟨y15, ey15, hN⟩ := hb_some hN
  obtain ⟨h16, eh16, R⟩ := xw_I R ey15
  refine ev_b eh16 ?_
  obtain ⟨y17, ey17, hN⟩ := hb_some hN
  obtain ⟨h18, eh18, R⟩ := xw_I R ey17
  refine ev_b eh18 ?_
  obtain ⟨y19, ey19, hN⟩ := hb_some hN
  obtain ⟨h20, eh20, R⟩ := xw_I R ey19
  refine ev_b eh20 ?_
  obtain rfl := Option.some.inj hN
  exact ⟨_, rfl, R⟩
set_option maxHeartbeats 1000000 in
set_option maxRecDepth 100000 in
theorem bx_TextReader_firstWrong_7 {F : Nat} {m7 : hH → Nat → Int32 → Option (Int32 × hH)} {r7 : XS → Nat → Int32 → Option (Int32 × XS)} (P7 : ∀ (h : hH) (s : XS) (x0 : Nat) (x2 : Int32) (q : (Int32 × XS)), RepX h s → r7 s x0 x2 = some q → ∃ h2, m7 h x0 x2 = some (q.1, h2) ∧ RepX h2 q.2) : ∀ (h : hH) (s : XS) (x0 : Nat) (x2 : Int32) (q : (Int32 × XS)), RepX h s → BX_TextReader_firstWrong_7 F r7 s x0 x2 = some q → ∃ h2, B_TextReader_firstWrong_7 F m7 h x0 x2 = some (q.1, h2) ∧ RepX h2 q.2 := by
  intro h s x0 x2 q R hN
  unfold BX_TextReader_firstWrong_7 at hN
  unfold B_TextReader_firstWrong_7
  obtain ⟨v1, ev1, hN⟩ := hb_some hN
  refine ex_b (xr_A R ev1) ?_
  obtain ⟨v2, ev2, hN⟩ := hb_some hN
  refine ex_b (xr_I R ev2) ?_
  refine ex_if (fun c3 => ?_) (fun c3 => ?_)
  · have hN := hif_t hN c3
    obtain ⟨v4, ev4, hN⟩ := hb_some hN
    refine ex_b (xr_I R ev4) ?_
    refine ex_if (fun c5 => ?_) (fun c5 => ?_)
    · have hN := hif_t hN c5
      obtain rfl := Option.some.inj hN
      exact ⟨_, rfl, R⟩
    · have hN := hif_f hN c5
      obtain ⟨v6, ev6, hN⟩ := hb_some hN
      refine ex_b (xr_A R ev6) ?_
      obtain ⟨v7, ev7, hN⟩ := hb_some hN
      refine ex_b (xr_I R ev7) ?_
      obtain rfl := Option.some.inj hN
      exact ⟨_, rfl, R⟩
  · have hN := hif_f hN c3
    obtain ⟨u8, eu8, hN⟩ := hb_some hN
    refine ex_b (xr_Is R eu8) ?_
    obtain ⟨q9, eq9, hN⟩ := hb_some hN
    obtain ⟨h10, eh10, R⟩ := x_TextReader_take R eq9
    refine ex_b eh10 ?_
    refine ex_if (fun c11 => ?_) (fun c11 => ?_)
    · have hN := hif_t hN c11
      obtain rfl := Option.some.inj hN
      exact ⟨_, rfl, R⟩
    · have hN := hif_f hN c11
      exact P7 _ _ _ _ _ R hN
theorem x_TextReader_firstWrong_7 {F : Nat} : ∀ z : Nat, ∀ (h : hH) (s : XS) (x0 : Nat) (x2 : Int32) (q : (Int32 × XS)), RepX h s → X_TextReader_firstWrong_7 F z s x0 x2 = some q → ∃ h2, M_TextReader_firstWrong_7 F z h x0 x2 = some (q.1, h2) ∧ RepX h2 q.2 := by
  intro z
  induction z with
  | zero => intro h s x0 x2 q R hN; exact absurd (show (none : Option _) = some q from hN) (fun t => by cases t)
  | succ z ih => exact bx_TextReader_firstWrong_7 ih
set_option maxHeartbeats 1000000 in
set_option maxRecDepth 100000 in
theorem x_TextReader_firstWrong {F : Nat} {h : hH} {s : XS} {x0 : Nat} {x1 : Nat} {q : (Int32 × XS)} (R : RepX h s) (hN : X_TextReader_firstWrong F s x0 x1 = some q) : ∃ h2, M_TextReader_firstWrong F h x0 x1 = some (q.1, h2) ∧ RepX h2 q.2 := by
  unfold X_TextReader_firstWrong at hN
  unfold M_TextReader_firstWrong
  obtain ⟨u1, eu1, hN⟩ := hb_some hN
  refine ex_b (xr_Is R eu1) ?_
  obtain ⟨q2, eq2, hN⟩ := hb_some hN
  obtain ⟨h3, eh3, R⟩ := x_TextReader_begin R eq2
  refine ex_b eh3 ?_
  exact x_TextReader_firstWrong_7 401 _ _ _ _ _ R hN
