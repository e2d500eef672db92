def f_X9_matchSize_b43 (s0 : Nat) (s1 : Int64) (σ : hb_M) : Option (Int32 × hb_M) :=
  (hb_on σ s0 9 (f_X9_sizes s0 s1 σ)).bind fun r1 =>
  some (r1.1.toInt32, r1.2)
def f_X9_matchSize (x0 : Nat) (x1 : Int32) (σ : hb_M) : Option (Int32 × hb_M) :=
  (hb_on σ x0 9 (f_X9_laysMatches x0 σ)).bind fun r1 =>
  if 0 ≤ r1.1 then
    if x1 = 0 then
      (hb_getL r1.2 x0 9 24).bind fun r4 =>
      f_X9_matchSize_b43 x0 r4 r1.2
    else
      (hb_getL r1.2 x0 9 11).bind fun r5 =>
      (hb_getL r1.2 x0 9 24).bind fun r6 =>
      (hb_on r1.2 x0 9 (f_X9_reached x0 r6 (-1 : Int32) (-1 : Int32) (-1 : Int32) r1.2)).bind fun r7 =>
      f_X9_matchSize_b43 x0 (r5 &&& (r7.1 ^^^ (-1 : Int64))) r7.2
  else
    some (r1.1, r1.2)
def f_X9_isNumber (x0 : Nat) (x1 : Int32) (σ : hb_M) : Option (Int32 × hb_M) :=
  (hb_on σ x0 9 (f_X9_letter x0 x1 σ)).bind fun r1 =>
  (f_X9_isDigit r1.1 r1.2).bind fun r2 =>
  if r2.1 = 0 then
    some ((0 : Int32), r2.2)
  else
    (hb_on r2.2 x0 9 (f_X9_letter x0 x1 r2.2)).bind fun r4 =>
    (hb_putI r4.2 x0 9 27 (r4.1 - (48 : Int32))).bind fun r5 =>
    (hb_putI r5 x0 9 22 (x1 + (1 : Int32))).bind fun r6 =>
    (hb_on r6 x0 9 (f_X9_letter x0 (x1 + (1 : Int32)) r6)).bind fun r7 =>
    (f_X9_isDigit r7.1 r7.2).bind fun r8 =>
    if r8.1 = 0 then
      some ((1 : Int32), r8.2)
    else
      (hb_getI r8.2 x0 9 27).bind fun r10 =>
      (hb_on r8.2 x0 9 (f_X9_letter x0 (x1 + (1 : Int32)) r8.2)).bind fun r11 =>
      (hb_putI r11.2 x0 9 27 ((((10 : Int32) * r10) + r11.1) - (48 : Int32))).bind fun r12 =>
      (hb_putI r12 x0 9 22 (x1 + (2 : Int32))).bind fun r13 =>
      some ((1 : Int32), r13)
def f_X9_command_b230 (x0 : Nat) (x4 : Int32) (σ : hb_M) : Option (Int32 × hb_M) :=
  (hb_on σ x0 9 (f_X9_letter x0 x4 σ)).bind fun r1 =>
  if r1.1 = (59 : Int32) then
    (hb_getI r1.2 x0 9 26).bind fun r3 =>
    (hb_putI r1.2 x0 9 26 (r3 + (1 : Int32))).bind fun r4 =>
    (hb_putI r4 x0 9 22 (x4 + (1 : Int32))).bind fun r5 =>
    some ((-1 : Int32), r5)
  else
    some (x4, r1.2)
def f_X9_command_b207 (k109 : Nat → Int32 → Int32 → Int32 → Int32 → hb_M → Option (Int32 × hb_M)) (x0 : Nat) (x3 : Int32) (x4 : Int32) (x5 : Int32) (x6 : Int32) (σ : hb_M) : Option (Int32 × hb_M) :=
  k109 x0 x3 x4 x5 (x6 + (1 : Int32)) σ
def f_X9_command_b183 (k109 : Nat → Int32 → Int32 → Int32 → Int32 → hb_M → Option (Int32 × hb_M)) (x0 : Nat) (x3 : Int32) (x4 : Int32) (x5 : Int32) (x6 : Int32) (σ : hb_M) : Option (Int32 × hb_M) :=
  if x5 ≤ x6 then
    f_X9_command_b207 k109 x0 x3 x4 x5 x6 σ
  else
    (hb_on σ x0 9 (f_X9_letter x0 x4 σ)).bind fun r2 =>
    if r2.1 = (44 : Int32) then
      f_X9_command_b207 k109 x0 x3 (x4 + (1 : Int32)) x5 x6 r2.2
    else
      some (x4, r2.2)
def f_X9_command_b149 (k109 : Nat → Int32 → Int32 → Int32 → Int32 → hb_M → Option (Int32 × hb_M)) (x0 : Nat) (x3 : Int32) (x4 : Int32) (x5 : Int32) (x6 : Int32) (σ : hb_M) : Option (Int32 × hb_M) :=
  (hb_on σ x0 9 (f_X9_isNumber x0 x4 σ)).bind fun r1 =>
  if r1.1 = 0 then
    some (x4, r1.2)
  else
    (hb_getR r1.2 x0 9 25).bind fun r3 =>
    (hb_getI r1.2 x0 9 27).bind fun r4 =>
    (hb_iast r1.2 r3 (x3 + x6) r4).bind fun r5 =>
    (hb_getI r5 x0 9 22).bind fun r6 =>
    f_X9_command_b183 k109 x0 x3 r6 x5 x6 r5
def f_X9_command_b109 : Nat → Nat → Int32 → Int32 → Int32 → Int32 → hb_M → Option (Int32 × hb_M)
  | 0, _, _, _, _, _, _ => none
  | n + 1, x0, x3, x4, x5, x6, σ =>
    if x5 < x6 then
      f_X9_command_b230 x0 x4 σ
    else
      if x6 = (3 : Int32) then
        (hb_on σ x0 9 (f_X9_letter x0 x4 σ)).bind fun r3 =>
        if r3.1 = (45 : Int32) then
          (hb_getR r3.2 x0 9 25).bind fun r5 =>
          (hb_iast r3.2 r5 (x3 + x6) (-1 : Int32)).bind fun r6 =>
          f_X9_command_b183 (f_X9_command_b109 n) x0 x3 (x4 + (1 : Int32)) x5 x6 r6
        else
          f_X9_command_b149 (f_X9_command_b109 n) x0 x3 x4 x5 x6 r3.2
      else
        f_X9_command_b149 (f_X9_command_b109 n) x0 x3 x4 x5 x6 σ
def f_X9_command_b104 (x0 : Nat) (x3 : Int32) (x4 : Int32) (s0 : Int32) (σ : hb_M) : Option (Int32 × hb_M) :=
  f_X9_command_b109 hb_FU x0 x3 x4 s0 (1 : Int32) σ
def f_X9_command_b93 (x0 : Nat) (x2 : Int32) (x3 : Int32) (x4 : Int32) (σ : hb_M) : Option (Int32 × hb_M) :=
  if x2 = (115 : Int32) then
    f_X9_command_b104 x0 x3 x4 (3 : Int32) σ
  else
    f_X9_command_b104 x0 x3 x4 (2 : Int32) σ
def f_X9_command_b37 (x0 : Nat) (x3 : Int32) (x4 : Int32) (σ : hb_M) : Option (Int32 × hb_M) :=
  (hb_on σ x0 9 (f_X9_letter x0 x4 σ)).bind fun r1 =>
  (f_X9_isDigit r1.1 r1.2).bind fun r2 =>
  if r2.1 = 0 then
    some (x4, r2.2)
  else
    (hb_getR r2.2 x0 9 25).bind fun r4 =>
    (hb_on r2.2 x0 9 (f_X9_letter x0 x4 r2.2)).bind fun r5 =>
    (hb_iast r5.2 r4 (x3 + (1 : Int32)) (r5.1 - (48 : Int32))).bind fun r6 =>
    f_X9_command_b230 x0 (x4 + (1 : Int32)) r6
def f_X9_command (x0 : Nat) (x1 : Int32) (σ : hb_M) : Option (Int32 × hb_M) :=
  (hb_on σ x0 9 (f_X9_letter x0 x1 σ)).bind fun r1 =>
  (hb_getI r1.2 x0 9 26).bind fun r2 =>
  (hb_getR r1.2 x0 9 25).bind fun r3 =>
  (hb_iast r1.2 r3 ((4 : Int32) * r2) r1.1).bind fun r4 =>
  if r1.1 = (110 : Int32) then
    f_X9_command_b37 x0 ((4 : Int32) * r2) (x1 + (1 : Int32)) r4
  else
    if r1.1 = (97 : Int32) then
      f_X9_command_b37 x0 ((4 : Int32) * r2) (x1 + (1 : Int32)) r4
    else
      if r1.1 = (115 : Int32) then
        f_X9_command_b93 x0 r1.1 ((4 : Int32) * r2) (x1 + (1 : Int32)) r4
      else
        if r1.1 = (43 : Int32) then
          f_X9_command_b93 x0 r1.1 ((4 : Int32) * r2) (x1 + (1 : Int32)) r4
        else
          if r1.1 = (45 : Int32) then
            f_X9_command_b93 x0 r1.1 ((4 : Int32) * r2) (x1 + (1 : Int32)) r4
          else
            if r1.1 = (119 : Int32) then
              f_X9_command_b230 x0 (x1 + (1 : Int32)) r4
            else
              if r1.1 = (99 : Int32) then
                f_X9_command_b230 x0 (x1 + (1 : Int32)) r4
              else
                some (x1, r4)
def f_X9_laysCommands_b7 : Nat → Nat → Int32 → hb_M → Option (Int32 × hb_M)
  | 0, _, _, _ => none
  | n + 1, x0, x1, σ =>
    (hb_getI σ x0 9 6).bind fun r1 =>
    if r1 ≤ x1 then
      some ((-1 : Int32), σ)
    else
      (hb_on σ x0 9 (f_X9_command x0 x1 σ)).bind fun r3 =>
      if r3.1 = (-1 : Int32) then
        (hb_getI r3.2 x0 9 22).bind fun r5 =>
        f_X9_laysCommands_b7 n x0 r5 r3.2
      else
        some (r3.1, r3.2)
def f_X9_laysCommands (x0 : Nat) (σ : hb_M) : Option (Int32 × hb_M) :=
  (hb_putI σ x0 9 26 (0 : Int32)).bind fun r1 =>
  f_X9_laysCommands_b7 hb_FU x0 (0 : Int32) r1
def f_X9_does (x0 : Nat) (x1 : Int32) (σ : hb_M) : Option (Int32 × hb_M) :=
  (hb_getR σ x0 9 25).bind fun r1 =>
  (hb_iald σ r1 (((4 : Int32) * x1) + (1 : Int32))).bind fun r2 =>
  (hb_getR σ x0 9 25).bind fun r3 =>
  (hb_iald σ r3 (((4 : Int32) * x1) + (2 : Int32))).bind fun r4 =>
  (hb_getR σ x0 9 25).bind fun r5 =>
  (hb_iald σ r5 (((4 : Int32) * x1) + (3 : Int32))).bind fun r6 =>
  (hb_getR σ x0 9 25).bind fun r7 =>
  (hb_iald σ r7 ((4 : Int32) * x1)).bind fun r8 =>
  if r8 = (43 : Int32) then
    (hb_on σ x0 9 (f_X9_rootRefusal x0 r2 r4 σ)).bind fun r10 =>
    if r10.1 = 0 then
      (hb_getR r10.2 x0 9 0).bind fun r12 =>
      (f_X9_at r2 r10.2).bind fun r13 =>
      (hb_iald r13.2 r12 (r13.1 + (4 : Int32))).bind fun r14 =>
      (hb_iast r13.2 r12 (r13.1 + (4 : Int32)) (r14 ||| ((1 : Int32) <<< (r4 &&& 31)))).bind fun r15 =>
      some ((1 : Int32), r15)
    else
      some ((0 : Int32), r10.2)
  else if r8 = (45 : Int32) then
    (hb_on σ x0 9 (f_X9_unrootRefusal x0 r2 r4 σ)).bind fun r17 =>
    if r17.1 = 0 then
      (hb_getR r17.2 x0 9 0).bind fun r19 =>
      (f_X9_at r2 r17.2).bind fun r20 =>
      (hb_iald r20.2 r19 (r20.1 + (4 : Int32))).bind fun r21 =>
      (hb_iast r20.2 r19 (r20.1 + (4 : Int32)) (r21 &&& (((1 : Int32) <<< (r4 &&& 31)) ^^^ (-1 : Int32)))).bind fun r22 =>
      some ((1 : Int32), r22)
    else
      some ((0 : Int32), r17.2)
  else if r8 = (97 : Int32) then
    (hb_on σ x0 9 (f_X9_arrayRefusal x0 r2 σ)).bind fun r24 =>
    if r24.1 = 0 then
      (hb_on r24.2 x0 9 (f_X9_creates x0 (10 : Int32) r2 r24.2)).bind fun r26 =>
      some ((1 : Int32), r26.2)
    else
      some ((0 : Int32), r24.2)
  else if r8 = (110 : Int32) then
    (hb_on σ x0 9 (f_X9_instanceRefusal x0 r2 σ)).bind fun r28 =>
    if r28.1 = 0 then
      (hb_on r28.2 x0 9 (f_X9_fieldsOf x0 r2 r28.2)).bind fun r30 =>
      (hb_on r30.2 x0 9 (f_X9_creates x0 r2 r30.1 r30.2)).bind fun r31 =>
      some ((1 : Int32), r31.2)
    else
      some ((0 : Int32), r28.2)
  else if r8 = (115 : Int32) then
    (hb_on σ x0 9 (f_X9_setRefusal x0 r2 r4 r6 σ)).bind fun r33 =>
    if r33.1 = 0 then
      (hb_getR r33.2 x0 9 0).bind fun r35 =>
      (f_X9_at r2 r33.2).bind fun r36 =>
      (hb_iast r36.2 r35 ((r36.1 + (5 : Int32)) + r4) r6).bind fun r37 =>
      some ((1 : Int32), r37)
    else
      some ((0 : Int32), r33.2)
  else if r8 = (119 : Int32) then
    (hb_on σ x0 9 (f_X9_many x0 σ)).bind fun r39 =>
    if r39.1 = (40 : Int32) then
      some ((0 : Int32), r39.2)
    else
      (hb_on r39.2 x0 9 (f_X9_creates x0 (11 : Int32) (1 : Int32) r39.2)).bind fun r41 =>
      some ((1 : Int32), r41.2)
  else 
    (hb_on σ x0 9 (f_X9_collects x0 σ)).bind fun r42 =>
    some ((1 : Int32), r42.2)
def f_X9_execute_b67 : Nat → Nat → Int32 → Int32 → hb_M → Option (Int32 × hb_M)
  | 0, _, _, _, _ => none
  | n + 1, x0, x2, x3, σ =>
    if (552 : Int32) ≤ x3 then
      some (((-1000 : Int32) - x2), σ)
    else
      (hb_getR σ x0 9 0).bind fun r2 =>
      (hb_getR σ x0 9 2).bind fun r3 =>
      (hb_iald σ r3 x3).bind fun r4 =>
      (hb_iast σ r2 x3 r4).bind fun r5 =>
      f_X9_execute_b67 n x0 x2 (x3 + (1 : Int32)) r5
def f_X9_execute_b49 : Nat → Nat → Int32 → hb_M → Option (Int32 × hb_M)
  | 0, _, _, _ => none
  | n + 1, x0, x2, σ =>
    (hb_getI σ x0 9 26).bind fun r1 =>
    if r1 ≤ x2 then
      (hb_getR σ x0 9 2).bind fun r3 =>
      (hb_on σ x0 9 (f_X9_keeps x0 r3 σ)).bind fun r4 =>
      (hb_getI r4 x0 9 26).bind fun r5 =>
      some (r5, r4)
    else
      (hb_on σ x0 9 (f_X9_does x0 x2 σ)).bind fun r6 =>
      if r6.1 = 0 then
        f_X9_execute_b67 hb_FU x0 x2 (0 : Int32) r6.2
      else
        f_X9_execute_b49 n x0 (x2 + (1 : Int32)) r6.2
def f_X9_execute_b22 : Nat → Nat → Int32 → hb_M → Option (Int32 × hb_M)
  | 0, _, _, _ => none
  | n + 1, x0, x2, σ =>
    if (552 : Int32) ≤ x2 then
      f_X9_execute_b49 hb_FU x0 (0 : Int32) σ
    else
      (hb_getR σ x0 9 2).bind fun r2 =>
      (hb_getR σ x0 9 0).bind fun r3 =>
      (hb_iald σ r3 x2).bind fun r4 =>
      (hb_iast σ r2 x2 r4).bind fun r5 =>
      f_X9_execute_b22 n x0 (x2 + (1 : Int32)) r5
def f_X9_execute (x0 : Nat) (σ : hb_M) : Option (Int32 × hb_M) :=
  (hb_putI σ x0 9 4 (0 : Int32)).bind fun r1 =>
  (hb_on r1 x0 9 (f_X9_laysCommands x0 r1)).bind fun r2 =>
  if r2.1 = (-1 : Int32) then
    f_X9_execute_b22 hb_FU x0 (0 : Int32) r2.2
  else
    some (((-10 : Int32) - r2.1), r2.2)
def f_X9_isPicture (x0 : Int32) (σ : hb_M) : Option (Int32 × hb_M) :=
  (f_X9_within x0 (0 : Int32) (1 : Int32) σ).bind fun r1 =>
  hb_zr r1.1 r1.2
def f_X9_serialIn (x0 : Nat) (x1 : Int32) (x2 : Int32) (σ : hb_M) : Option (Int32 × hb_M) :=
  (hb_getR σ x0 9 0).bind fun r1 =>
  (f_X9_at x1 σ).bind fun r2 =>
  (hb_iald r2.2 r1 ((r2.1 + (5 : Int32)) + x2)).bind fun r3 =>
  if r3 = (-1 : Int32) then
    some ((0 : Int32), r2.2)
  else
    (hb_getR r2.2 x0 9 0).bind fun r5 =>
    (f_X9_at r3 r2.2).bind fun r6 =>
    (hb_iald r6.2 r5 (r6.1 + (0 : Int32))).bind fun r7 =>
    some (r7, r6.2)
def f_X9_take_b146 (k21 : Nat → Int32 → Int32 → Int32 → hb_M → Option (Int32 × hb_M)) (k112 : Nat → Int32 → Int32 → Int32 → Int32 → Int32 → Int32 → hb_M → Option (Int32 × hb_M)) (x0 : Nat) (x1 : Int32) (x2 : Int32) (x3 : Int32) (x4 : Int32) (x5 : Int32) (x6 : Int32) (s0 : Nat) (s1 : Int32) (s2 : Int32) (σ : hb_M) : Option (Int32 × hb_M) :=
  (hb_iast σ s0 s1 s2).bind fun r1 =>
  k112 x0 x1 x2 x3 x4 x5 (x6 + (1 : Int32)) r1
def f_X9_take_b112 (k21 : Nat → Int32 → Int32 → Int32 → hb_M → Option (Int32 × hb_M)) : Nat → Nat → Int32 → Int32 → Int32 → Int32 → Int32 → Int32 → hb_M → Option (Int32 × hb_M)
  | 0, _, _, _, _, _, _, _, _ => none
  | n + 1, x0, x1, x2, x3, x4, x5, x6, σ =>
    if (8 : Int32) ≤ x6 then
      k21 x0 x1 x2 (x3 + (1 : Int32)) σ
    else
      (hb_getR σ x0 9 7).bind fun r2 =>
      if x5 = 0 then
        f_X9_take_b146 k21 (f_X9_take_b112 k21 n) x0 x1 x2 x3 x4 x5 x6 r2 ((x4 + (5 : Int32)) + x6) (0 : Int32) σ
      else
        (hb_on σ x0 9 (f_X9_serialIn x0 x3 x6 σ)).bind fun r4 =>
        f_X9_take_b146 k21 (f_X9_take_b112 k21 n) x0 x1 x2 x3 x4 x5 x6 r2 ((x4 + (5 : Int32)) + x6) r4.1 r4.2
def f_X9_take_b102 (k21 : Nat → Int32 → Int32 → Int32 → hb_M → Option (Int32 × hb_M)) (k66 : Nat → Int32 → Int32 → Int32 → Int32 → Int32 → Int32 → hb_M → Option (Int32 × hb_M)) (x0 : Nat) (x1 : Int32) (x2 : Int32) (x3 : Int32) (x4 : Int32) (x5 : Int32) (x6 : Int32) (s0 : Nat) (s1 : Int32) (s2 : Int32) (σ : hb_M) : Option (Int32 × hb_M) :=
  (hb_iast σ s0 s1 s2).bind fun r1 =>
  k66 x0 x1 x2 x3 x4 x5 (x6 + (1 : Int32)) r1
def f_X9_take_b66 (k21 : Nat → Int32 → Int32 → Int32 → hb_M → Option (Int32 × hb_M)) : Nat → Nat → Int32 → Int32 → Int32 → Int32 → Int32 → Int32 → hb_M → Option (Int32 × hb_M)
  | 0, _, _, _, _, _, _, _, _ => none
  | n + 1, x0, x1, x2, x3, x4, x5, x6, σ =>
    if (5 : Int32) ≤ x6 then
      f_X9_take_b112 k21 hb_FU x0 x1 x2 x3 x4 x5 (0 : Int32) σ
    else
      (hb_getR σ x0 9 7).bind fun r2 =>
      if x5 = 0 then
        f_X9_take_b102 k21 (f_X9_take_b66 k21 n) x0 x1 x2 x3 x4 x5 x6 r2 (x4 + x6) (0 : Int32) σ
      else
        (hb_getR σ x0 9 0).bind fun r4 =>
        (f_X9_at x3 σ).bind fun r5 =>
        (hb_iald r5.2 r4 (r5.1 + x6)).bind fun r6 =>
        f_X9_take_b102 k21 (f_X9_take_b66 k21 n) x0 x1 x2 x3 x4 x5 x6 r2 (x4 + x6) r6 r5.2
def f_X9_take_b61 (k21 : Nat → Int32 → Int32 → Int32 → hb_M → Option (Int32 × hb_M)) (x0 : Nat) (x1 : Int32) (x3 : Int32) (x4 : Int32) (x5 : Int32) (s0 : Int32) (s1 : Int32) (σ : hb_M) : Option (Int32 × hb_M) :=
  f_X9_take_b66 k21 hb_FU x0 x1 (s0 + s1) x3 x4 x5 (0 : Int32) σ
def f_X9_take_b21 : Nat → Nat → Int32 → Int32 → Int32 → hb_M → Option (Int32 × hb_M)
  | 0, _, _, _, _, _ => none
  | n + 1, x0, x1, x2, x3, σ =>
    if (40 : Int32) ≤ x3 then
      (hb_getR σ x0 9 8).bind fun r2 =>
      (hb_iast σ r2 x1 (1 : Int32)).bind fun r3 =>
      (hb_getR r3 x0 9 9).bind fun r4 =>
      (hb_iast r3 r4 x1 x2).bind fun r5 =>
      (hb_on r5 x0 9 (f_X9_many x0 r5)).bind fun r6 =>
      some (r6.1, r6.2)
    else
      (hb_on σ x0 9 (f_X9_isObject x0 x3 σ)).bind fun r7 =>
      if r7.1 = 0 then
        f_X9_take_b61 (f_X9_take_b21 n) x0 x1 x3 (((520 : Int32) * x1) + ((13 : Int32) * x3)) r7.1 x2 (0 : Int32) r7.2
      else
        (hb_on r7.2 x0 9 (f_X9_sizeOf x0 x3 r7.2)).bind fun r9 =>
        f_X9_take_b61 (f_X9_take_b21 n) x0 x1 x3 (((520 : Int32) * x1) + ((13 : Int32) * x3)) r7.1 x2 r9.1 r9.2
def f_X9_take (x0 : Nat) (x1 : Int32) (σ : hb_M) : Option (Int32 × hb_M) :=
  (f_X9_isPicture x1 σ).bind fun r1 =>
  (hb_on r1.2 x0 9 (f_X9_need x0 r1.1 r1.2)).bind fun r2 =>
  (hb_on r2.2 x0 9 (f_X9_refused x0 r2.1 r2.2)).bind fun r3 =>
  if r3.1 = 0 then
    f_X9_take_b21 hb_FU x0 x1 (0 : Int32) (0 : Int32) r3.2
  else
    some ((0 : Int32), r3.2)
def f_X9_inPicture_b2 : Nat → Nat → Int32 → Int32 → Int32 → hb_M → Option (Int32 × hb_M)
  | 0, _, _, _, _, _ => none
  | n + 1, x0, x1, x2, x3, σ =>
    if (40 : Int32) ≤ x3 then
      some ((-1 : Int32), σ)
    else
      (hb_getR σ x0 9 7).bind fun r2 =>
      (hb_iald σ r2 (((520 : Int32) * x1) + ((13 : Int32) * x3))).bind fun r3 =>
      if r3 = x2 then
        some ((((520 : Int32) * x1) + ((13 : Int32) * x3)), σ)
      else
        f_X9_inPicture_b2 n x0 x1 x2 (x3 + (1 : Int32)) σ
def f_X9_inPicture (x0 : Nat) (x1 : Int32) (x2 : Int32) (σ : hb_M) : Option (Int32 × hb_M) :=
  f_X9_inPicture_b2 hb_FU x0 x1 x2 (0 : Int32) σ
def f_X9_hasChanged_b99 (k53 : Nat → Int32 → Int32 → Int32 → Int32 → hb_M → Option (Int32 × hb_M)) (x0 : Nat) (x1 : Int32) (x2 : Int32) (x4 : Int32) (s0 : Int32) (σ : hb_M) : Option (Int32 × hb_M) :=
  k53 x0 x1 x2 s0 (x4 + (1 : Int32)) σ
def f_X9_hasChanged_b53 : Nat → Nat → Int32 → Int32 → Int32 → Int32 → hb_M → Option (Int32 × hb_M)
  | 0, _, _, _, _, _, _ => none
  | n + 1, x0, x1, x2, x3, x4, σ =>
    (hb_getR σ x0 9 0).bind fun r1 =>
    (f_X9_at x1 σ).bind fun r2 =>
    (hb_iald r2.2 r1 (r2.1 + (2 : Int32))).bind fun r3 =>
    if r3 ≤ x4 then
      hb_zr x3 r2.2
    else
      if x3 = 0 then
        (hb_on r2.2 x0 9 (f_X9_serialIn x0 x1 x4 r2.2)).bind fun r6 =>
        (hb_getR r6.2 x0 9 7).bind fun r7 =>
        (hb_iald r6.2 r7 ((x2 + (5 : Int32)) + x4)).bind fun r8 =>
        if r6.1 = r8 then
          f_X9_hasChanged_b99 (f_X9_hasChanged_b53 n) x0 x1 x2 x4 (0 : Int32) r6.2
        else
          f_X9_hasChanged_b99 (f_X9_hasChanged_b53 n) x0 x1 x2 x4 (1 : Int32) r6.2
      else
        hb_zr x3 r2.2
def f_X9_hasChanged_b49 (x0 : Nat) (x1 : Int32) (x2 : Int32) (s0 : Int32) (σ : hb_M) : Option (Int32 × hb_M) :=
  f_X9_hasChanged_b53 hb_FU x0 x1 x2 s0 (0 : Int32) σ
def f_X9_hasChanged_b44 (x0 : Nat) (x1 : Int32) (x2 : Int32) (σ : hb_M) : Option (Int32 × hb_M) :=
  f_X9_hasChanged_b49 x0 x1 x2 (1 : Int32) σ
def f_X9_hasChanged (x0 : Nat) (x1 : Int32) (x2 : Int32) (σ : hb_M) : Option (Int32 × hb_M) :=
  (hb_getR σ x0 9 0).bind fun r1 =>
  (f_X9_at x1 σ).bind fun r2 =>
  (hb_iald r2.2 r1 (r2.1 + (4 : Int32))).bind fun r3 =>
  (hb_getR r2.2 x0 9 7).bind fun r4 =>
  (hb_iald r2.2 r4 (x2 + (4 : Int32))).bind fun r5 =>
  if r3 = r5 then
    (hb_getR r2.2 x0 9 0).bind fun r7 =>
    (f_X9_at x1 r2.2).bind fun r8 =>
    (hb_iald r8.2 r7 (r8.1 + (2 : Int32))).bind fun r9 =>
    (hb_getR r8.2 x0 9 7).bind fun r10 =>
    (hb_iald r8.2 r10 (x2 + (2 : Int32))).bind fun r11 =>
    if r9 = r11 then
      f_X9_hasChanged_b49 x0 x1 x2 (0 : Int32) r8.2
    else
      f_X9_hasChanged_b44 x0 x1 x2 r8.2
  else
    f_X9_hasChanged_b44 x0 x1 x2 r2.2
def f_X9_compare_b196 (k64 : Nat → Int32 → Int32 → Int32 → Int32 → Int32 → Int32 → Int32 → Int32 → hb_M → Option (Int32 × hb_M)) (x0 : Nat) (x1 : Int32) (x2 : Int32) (x3 : Int32) (x4 : Int32) (x5 : Int32) (x6 : Int32) (x7 : Int32) (x8 : Int32) (σ : hb_M) : Option (Int32 × hb_M) :=
  k64 x0 x1 x2 x3 x4 x5 x6 x7 (x8 + (1 : Int32)) σ
def f_X9_compare_b182 (k64 : Nat → Int32 → Int32 → Int32 → Int32 → Int32 → Int32 → Int32 → Int32 → hb_M → Option (Int32 × hb_M)) (x0 : Nat) (x1 : Int32) (x2 : Int32) (x3 : Int32) (x4 : Int32) (x6 : Int32) (x7 : Int32) (x8 : Int32) (s0 : Int32) (s1 : Int32) (σ : hb_M) : Option (Int32 × hb_M) :=
  (hb_on σ x0 9 (f_X9_sizeOf x0 x8 σ)).bind fun r1 =>
  f_X9_compare_b196 k64 x0 x1 x2 x3 x4 (s0 + s1) (x6 + r1.1) x7 x8 r1.2
def f_X9_compare_b181 (k64 : Nat → Int32 → Int32 → Int32 → Int32 → Int32 → Int32 → Int32 → Int32 → hb_M → Option (Int32 × hb_M)) (x0 : Nat) (x1 : Int32) (x2 : Int32) (x3 : Int32) (x4 : Int32) (x6 : Int32) (x7 : Int32) (x8 : Int32) (s0 : Int32) (σ : hb_M) : Option (Int32 × hb_M) :=
  f_X9_compare_b182 k64 x0 x1 x2 x3 x4 x6 x7 x8 s0 (0 : Int32) σ
def f_X9_compare_b155 (k64 : Nat → Int32 → Int32 → Int32 → Int32 → Int32 → Int32 → Int32 → Int32 → hb_M → Option (Int32 × hb_M)) (x0 : Nat) (x1 : Int32) (x2 : Int32) (x3 : Int32) (x5 : Int32) (x6 : Int32) (x7 : Int32) (x8 : Int32) (x9 : Int32) (s0 : Int32) (s1 : Int32) (σ : hb_M) : Option (Int32 × hb_M) :=
  if x9 = (-1 : Int32) then
    f_X9_compare_b181 k64 x0 x1 x2 x3 (s0 + s1) x6 x7 x8 x5 σ
  else
    (hb_on σ x0 9 (f_X9_hasChanged x0 x8 x9 σ)).bind fun r2 =>
    if r2.1 = 0 then
      f_X9_compare_b181 k64 x0 x1 x2 x3 (s0 + s1) x6 x7 x8 x5 r2.2
    else
      f_X9_compare_b182 k64 x0 x1 x2 x3 (s0 + s1) x6 x7 x8 x5 (1 : Int32) r2.2
def f_X9_compare_b140 (k64 : Nat → Int32 → Int32 → Int32 → Int32 → Int32 → Int32 → Int32 → Int32 → hb_M → Option (Int32 × hb_M)) (x0 : Nat) (x1 : Int32) (x2 : Int32) (x4 : Int32) (x5 : Int32) (x6 : Int32) (x7 : Int32) (x8 : Int32) (x9 : Int32) (s0 : Int32) (s1 : Int32) (σ : hb_M) : Option (Int32 × hb_M) :=
  if x9 = (-1 : Int32) then
    f_X9_compare_b155 k64 x0 x1 x2 (s0 + s1) x5 x6 x7 x8 x9 x4 (0 : Int32) σ
  else
    f_X9_compare_b155 k64 x0 x1 x2 (s0 + s1) x5 x6 x7 x8 x9 x4 (1 : Int32) σ
def f_X9_compare_b97 (k64 : Nat → Int32 → Int32 → Int32 → Int32 → Int32 → Int32 → Int32 → Int32 → hb_M → Option (Int32 × hb_M)) (x0 : Nat) (x1 : Int32) (x2 : Int32) (x3 : Int32) (x4 : Int32) (x5 : Int32) (x6 : Int32) (x8 : Int32) (s0 : Int32) (s1 : Int32) (σ : hb_M) : Option (Int32 × hb_M) :=
  (hb_on σ x0 9 (f_X9_isObject x0 x8 σ)).bind fun r1 =>
  if r1.1 = 0 then
    f_X9_compare_b196 k64 x0 x1 x2 x3 x4 x5 x6 (s0 + s1) x8 r1.2
  else
    (hb_getR r1.2 x0 9 0).bind fun r3 =>
    (f_X9_at x8 r1.2).bind fun r4 =>
    (hb_iald r4.2 r3 (r4.1 + (0 : Int32))).bind fun r5 =>
    (hb_on r4.2 x0 9 (f_X9_inPicture x0 x1 r5 r4.2)).bind fun r6 =>
    if r6.1 = (-1 : Int32) then
      f_X9_compare_b140 k64 x0 x1 x2 x4 x5 x6 (s0 + s1) x8 r6.1 x3 (1 : Int32) r6.2
    else
      f_X9_compare_b140 k64 x0 x1 x2 x4 x5 x6 (s0 + s1) x8 r6.1 x3 (0 : Int32) r6.2
def f_X9_compare_b64 : Nat → Nat → Int32 → Int32 → Int32 → Int32 → Int32 → Int32 → Int32 → Int32 → hb_M → Option (Int32 × hb_M)
  | 0, _, _, _, _, _, _, _, _, _, _ => none
  | n + 1, x0, x1, x2, x3, x4, x5, x6, x7, x8, σ =>
    if (40 : Int32) ≤ x8 then
      if x2 = 0 then
        some (x3, σ)
      else
        if x2 = (1 : Int32) then
          some ((x7 - x4), σ)
        else
          if x2 = (2 : Int32) then
            some (x5, σ)
          else
            (hb_getR σ x0 9 9).bind fun r5 =>
            (hb_iald σ r5 x1).bind fun r6 =>
            some ((x6 - r6), σ)
    else
      (hb_getR σ x0 9 7).bind fun r7 =>
      (hb_iald σ r7 (((520 : Int32) * x1) + ((13 : Int32) * x8))).bind fun r8 =>
      if r8 = 0 then
        f_X9_compare_b97 (f_X9_compare_b64 n) x0 x1 x2 x3 x4 x5 x6 x8 x7 (0 : Int32) σ
      else
        f_X9_compare_b97 (f_X9_compare_b64 n) x0 x1 x2 x3 x4 x5 x6 x8 x7 (1 : Int32) σ
def f_X9_compare_b39 (x0 : Nat) (x1 : Int32) (x2 : Int32) (s0 : Nat) (s1 : Int32) (σ : hb_M) : Option (Int32 × hb_M) :=
  (hb_on σ s0 9 (f_X9_refused s0 s1 σ)).bind fun r1 =>
  if r1.1 = 0 then
    f_X9_compare_b64 hb_FU x0 x1 x2 (0 : Int32) (0 : Int32) (0 : Int32) (0 : Int32) (0 : Int32) (0 : Int32) r1.2
  else
    some ((0 : Int32), r1.2)
def f_X9_compare (x0 : Nat) (x1 : Int32) (x2 : Int32) (σ : hb_M) : Option (Int32 × hb_M) :=
  (f_X9_isPicture x1 σ).bind fun r1 =>
  if r1.1 = 0 then
    f_X9_compare_b39 x0 x1 x2 x0 (1 : Int32) r1.2
  else
    (f_X9_within x2 (0 : Int32) (3 : Int32) r1.2).bind fun r3 =>
    if r3.1 = 0 then
      f_X9_compare_b39 x0 x1 x2 x0 (2 : Int32) r3.2
    else
      (hb_getR r3.2 x0 9 8).bind fun r5 =>
      (hb_iald r3.2 r5 x1).bind fun r6 =>
      if r6 = 0 then
        f_X9_compare_b39 x0 x1 x2 x0 (3 : Int32) r3.2
      else
        f_X9_compare_b39 x0 x1 x2 x0 (0 : Int32) r3.2
def f_X9_growth_b136 (k49 : Nat → Int32 → Int32 → Int32 → Int32 → hb_M → Option (Int32 × hb_M)) (x0 : Nat) (x1 : Int32) (x2 : Int32) (x4 : Int32) (s0 : Int32) (s1 : Int32) (σ : hb_M) : Option (Int32 × hb_M) :=
  k49 x0 x1 x2 (s0 - s1) (x4 + (1 : Int32)) σ
def f_X9_growth_b135 (k49 : Nat → Int32 → Int32 → Int32 → Int32 → hb_M → Option (Int32 × hb_M)) (x0 : Nat) (x1 : Int32) (x2 : Int32) (x4 : Int32) (s0 : Int32) (σ : hb_M) : Option (Int32 × hb_M) :=
  f_X9_growth_b136 k49 x0 x1 x2 x4 s0 (0 : Int32) σ
def f_X9_growth_b87 (k49 : Nat → Int32 → Int32 → Int32 → Int32 → hb_M → Option (Int32 × hb_M)) (x0 : Nat) (x1 : Int32) (x2 : Int32) (x4 : Int32) (s0 : Int32) (s1 : Int32) (σ : hb_M) : Option (Int32 × hb_M) :=
  (hb_getR σ x0 9 7).bind fun r1 =>
  (hb_iald σ r1 (((520 : Int32) * x1) + ((13 : Int32) * x4))).bind fun r2 =>
  if r2 = 0 then
    f_X9_growth_b135 k49 x0 x1 x2 x4 (s0 + s1) σ
  else
    (hb_getR σ x0 9 7).bind fun r4 =>
    (hb_iald σ r4 ((((520 : Int32) * x1) + ((13 : Int32) * x4)) + (1 : Int32))).bind fun r5 =>
    if r5 = x2 then
      f_X9_growth_b136 k49 x0 x1 x2 x4 (s0 + s1) (1 : Int32) σ
    else
      f_X9_growth_b135 k49 x0 x1 x2 x4 (s0 + s1) σ
def f_X9_growth_b86 (k49 : Nat → Int32 → Int32 → Int32 → Int32 → hb_M → Option (Int32 × hb_M)) (x0 : Nat) (x1 : Int32) (x2 : Int32) (x4 : Int32) (s0 : Int32) (σ : hb_M) : Option (Int32 × hb_M) :=
  f_X9_growth_b87 k49 x0 x1 x2 x4 s0 (0 : Int32) σ
def f_X9_growth_b49 : Nat → Nat → Int32 → Int32 → Int32 → Int32 → hb_M → Option (Int32 × hb_M)
  | 0, _, _, _, _, _, _ => none
  | n + 1, x0, x1, x2, x3, x4, σ =>
    if (40 : Int32) ≤ x4 then
      some (x3, σ)
    else
      (hb_on σ x0 9 (f_X9_isObject x0 x4 σ)).bind fun r2 =>
      if r2.1 = 0 then
        f_X9_growth_b86 (f_X9_growth_b49 n) x0 x1 x2 x4 x3 r2.2
      else
        (hb_getR r2.2 x0 9 0).bind fun r4 =>
        (f_X9_at x4 r2.2).bind fun r5 =>
        (hb_iald r5.2 r4 (r5.1 + (1 : Int32))).bind fun r6 =>
        if r6 = x2 then
          f_X9_growth_b87 (f_X9_growth_b49 n) x0 x1 x2 x4 x3 (1 : Int32) r5.2
        else
          f_X9_growth_b86 (f_X9_growth_b49 n) x0 x1 x2 x4 x3 r5.2
def f_X9_growth_b36 (x0 : Nat) (x1 : Int32) (x2 : Int32) (s0 : Nat) (s1 : Int32) (σ : hb_M) : Option (Int32 × hb_M) :=
  (hb_on σ s0 9 (f_X9_refused s0 s1 σ)).bind fun r1 =>
  if r1.1 = 0 then
    f_X9_growth_b49 hb_FU x0 x1 x2 (0 : Int32) (0 : Int32) r1.2
  else
    some ((0 : Int32), r1.2)
def f_X9_growth_b18 (x0 : Nat) (x1 : Int32) (x2 : Int32) (s0 : Nat) (σ : hb_M) : Option (Int32 × hb_M) :=
  f_X9_growth_b36 x0 x1 x2 s0 (1 : Int32) σ
def f_X9_growth (x0 : Nat) (x1 : Int32) (x2 : Int32) (σ : hb_M) : Option (Int32 × hb_M) :=
  (f_X9_isPicture x1 σ).bind fun r1 =>
  if r1.1 = 0 then
    f_X9_growth_b18 x0 x1 x2 x0 r1.2
  else
    (f_X9_within x2 (0 : Int32) (11 : Int32) r1.2).bind fun r3 =>
    if r3.1 = 0 then
      f_X9_growth_b18 x0 x1 x2 x0 r3.2
    else
      (hb_getR r3.2 x0 9 8).bind fun r5 =>
      (hb_iald r3.2 r5 x1).bind fun r6 =>
      if r6 = 0 then
        f_X9_growth_b36 x0 x1 x2 x0 (2 : Int32) r3.2
      else
        f_X9_growth_b36 x0 x1 x2 x0 (0 : Int32) r3.2
def f_X9_mix (x0 : Nat) (x1 : Int64) (σ : hb_M) : Option hb_M :=
  (hb_getL σ x0 9 28).bind fun r1 =>
  (hb_putL σ x0 9 28 (((31 : Int64) * r1) + x1)).bind fun r2 =>
  some r2
def f_X9_digest_b218 (k88 : Nat → Int32 → hb_M → Option (Int64 × hb_M)) (x0 : Nat) (x1 : Int32) (σ : hb_M) : Option (Int64 × hb_M) :=
  k88 x0 (x1 + (1 : Int32)) σ
def f_X9_digest_b135 (k88 : Nat → Int32 → hb_M → Option (Int64 × hb_M)) : Nat → Nat → Int32 → Int32 → hb_M → Option (Int64 × hb_M)
  | 0, _, _, _, _ => none
  | n + 1, x0, x1, x2, σ =>
    (hb_getR σ x0 9 0).bind fun r1 =>
    (f_X9_at x1 σ).bind fun r2 =>
    (hb_iald r2.2 r1 (r2.1 + (2 : Int32))).bind fun r3 =>
    if r3 ≤ x2 then
      (hb_getR r2.2 x0 9 13).bind fun r5 =>
      (hb_iald r2.2 r5 x1).bind fun r6 =>
      (hb_on r2.2 x0 9 (f_X9_mix x0 r6.toInt64 r2.2)).bind fun r7 =>
      (hb_on r7 x0 9 (f_X9_immediate x0 x1 r7)).bind fun r8 =>
      (hb_on r8.2 x0 9 (f_X9_mix x0 r8.1.toInt64 r8.2)).bind fun r9 =>
      (hb_on r9 x0 9 (f_X9_retainedBy x0 x1 r9)).bind fun r10 =>
      (hb_on r10.2 x0 9 (f_X9_mix x0 r10.1.toInt64 r10.2)).bind fun r11 =>
      (hb_on r11 x0 9 (f_X9_componentOf x0 x1 r11)).bind fun r12 =>
      (f_X9_first r12.1 r12.2).bind fun r13 =>
      (hb_on r13.2 x0 9 (f_X9_mix x0 r13.1.toInt64 r13.2)).bind fun r14 =>
      f_X9_digest_b218 k88 x0 x1 r14
    else
      (hb_getR r2.2 x0 9 0).bind fun r15 =>
      (f_X9_at x1 r2.2).bind fun r16 =>
      (hb_iald r16.2 r15 ((r16.1 + (5 : Int32)) + x2)).bind fun r17 =>
      (hb_on r16.2 x0 9 (f_X9_mix x0 r17.toInt64 r16.2)).bind fun r18 =>
      f_X9_digest_b135 k88 n x0 x1 (x2 + (1 : Int32)) r18
def f_X9_digest_b110 (k88 : Nat → Int32 → hb_M → Option (Int64 × hb_M)) : Nat → Nat → Int32 → Int32 → hb_M → Option (Int64 × hb_M)
  | 0, _, _, _, _ => none
  | n + 1, x0, x1, x2, σ =>
    if (6 : Int32) ≤ x2 then
      f_X9_digest_b135 k88 hb_FU x0 x1 (0 : Int32) σ
    else
      (hb_on σ x0 9 (f_X9_objectBy x0 x1 x2 σ)).bind fun r2 =>
      (hb_on r2.2 x0 9 (f_X9_mix x0 r2.1.toInt64 r2.2)).bind fun r3 =>
      f_X9_digest_b110 k88 n x0 x1 (x2 + (1 : Int32)) r3
def f_X9_digest_b88 : Nat → Nat → Int32 → hb_M → Option (Int64 × hb_M)
  | 0, _, _, _ => none
  | n + 1, x0, x1, σ =>
    if (40 : Int32) ≤ x1 then
      (hb_getI σ x0 9 6).bind fun r2 =>
      (hb_on σ x0 9 (f_X9_mix x0 r2.toInt64 σ)).bind fun r3 =>
      (hb_getI r3 x0 9 3).bind fun r4 =>
      (hb_on r3 x0 9 (f_X9_mix x0 r4.toInt64 r3)).bind fun r5 =>
      (hb_getL r5 x0 9 28).bind fun r6 =>
      some (r6, r5)
    else
      (hb_on σ x0 9 (f_X9_isObject x0 x1 σ)).bind fun r7 =>
      if r7.1 = 0 then
        f_X9_digest_b218 (f_X9_digest_b88 n) x0 x1 r7.2
      else
        (hb_on r7.2 x0 9 (f_X9_mix x0 x1.toInt64 r7.2)).bind fun r9 =>
        f_X9_digest_b110 (f_X9_digest_b88 n) hb_FU x0 x1 (0 : Int32) r9
def f_X9_digest_b37 : Nat → Nat → Int32 → hb_M → Option (Int64 × hb_M)
  | 0, _, _, _ => none
  | n + 1, x0, x1, σ =>
    (hb_getR σ x0 9 0).bind fun r1 =>
    (hb_iald σ r1 (0 : Int32)).bind fun r2 =>
    if r2 ≤ x1 then
      f_X9_digest_b88 hb_FU x0 (0 : Int32) σ
    else
      (hb_on σ x0 9 (f_X9_classBy x0 x1 (0 : Int32) σ)).bind fun r4 =>
      (hb_on r4.2 x0 9 (f_X9_mix x0 r4.1.toInt64 r4.2)).bind fun r5 =>
      (hb_on r5 x0 9 (f_X9_classBy x0 x1 (1 : Int32) r5)).bind fun r6 =>
      (hb_on r6.2 x0 9 (f_X9_mix x0 r6.1.toInt64 r6.2)).bind fun r7 =>
      (hb_on r7 x0 9 (f_X9_classBy x0 x1 (2 : Int32) r7)).bind fun r8 =>
      (hb_on r8.2 x0 9 (f_X9_mix x0 r8.1.toInt64 r8.2)).bind fun r9 =>
      f_X9_digest_b37 n x0 (x1 + (1 : Int32)) r9
def f_X9_digest (x0 : Nat) (σ : hb_M) : Option (Int64 × hb_M) :=
  (hb_putI σ x0 9 4 (0 : Int32)).bind fun r1 =>
  (hb_on r1 x0 9 (f_X9_laysRetained x0 r1)).bind fun r2 =>
  (hb_on r2 x0 9 (f_X9_laysFar x0 r2)).bind fun r3 =>
  (hb_on r3 x0 9 (f_X9_laysLeads x0 r3)).bind fun r4 =>
  (hb_putL r4 x0 9 28 (1759 : Int64)).bind fun r5 =>
  (hb_getR r5 x0 9 0).bind fun r6 =>
  (hb_iald r5 r6 (0 : Int32)).bind fun r7 =>
  (hb_on r5 x0 9 (f_X9_mix x0 r7.toInt64 r5)).bind fun r8 =>
  f_X9_digest_b37 hb_FU x0 (0 : Int32) r8
