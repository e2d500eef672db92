def f_X1_init (x0 : Nat) (x1 : Nat) (x2 : Nat) (x3 : Nat) (σ : hb_M) : Option hb_M :=
  (hb_newA σ 0 (100 : Int32)).bind fun r1 =>
  (hb_putR r1.2 x0 1 3 r1.1).bind fun r2 =>
  (hb_newA r2 0 (100 : Int32)).bind fun r3 =>
  (hb_putR r3.2 x0 1 4 r3.1).bind fun r4 =>
  (hb_newA r4 0 (100 : Int32)).bind fun r5 =>
  (hb_putR r5.2 x0 1 5 r5.1).bind fun r6 =>
  (hb_newA r6 0 (100 : Int32)).bind fun r7 =>
  (hb_putR r7.2 x0 1 6 r7.1).bind fun r8 =>
  (hb_putR r8 x0 1 0 x1).bind fun r9 =>
  (hb_putR r9 x0 1 1 x2).bind fun r10 =>
  (hb_putR r10 x0 1 2 x3).bind fun r11 =>
  some r11
def f_X1_readPair (x0 : Nat) (σ : hb_M) : Option hb_M :=
  (hb_getR σ x0 1 4).bind fun r1 =>
  (hb_getI σ x0 1 7).bind fun r2 =>
  (hb_getR σ x0 1 2).bind fun r3 =>
  (hb_on σ r3 7 (f_X7_number r3 (2 : Int32) σ)).bind fun r4 =>
  (hb_iast r4.2 r1 r2 r4.1).bind fun r5 =>
  (hb_getR r5 x0 1 2).bind fun r6 =>
  (hb_on r5 r6 7 (f_X7_expect r6 (44 : Int32) r5)).bind fun r7 =>
  (hb_getR r7 x0 1 5).bind fun r8 =>
  (hb_getI r7 x0 1 7).bind fun r9 =>
  (hb_getR r7 x0 1 2).bind fun r10 =>
  (hb_on r7 r10 7 (f_X7_number r10 (2 : Int32) r7)).bind fun r11 =>
  (hb_iast r11.2 r8 r9 r11.1).bind fun r12 =>
  some r12
def f_X1_readOne_b152 (x0 : Nat) (σ : hb_M) : Option hb_M :=
  (hb_getR σ x0 1 2).bind fun r1 =>
  (hb_on σ r1 7 (f_X7_expect r1 (59 : Int32) σ)).bind fun r2 =>
  some r2
def f_X1_readOne_b141 (x0 : Nat) (s0 : Nat) (s1 : Int32) (s2 : Int32) (σ : hb_M) : Option hb_M :=
  (hb_iast σ s0 s1 s2).bind fun r1 =>
  f_X1_readOne_b152 x0 r1
def f_X1_readOne (x0 : Nat) (σ : hb_M) : Option hb_M :=
  (hb_getR σ x0 1 3).bind fun r1 =>
  (hb_getI σ x0 1 7).bind fun r2 =>
  (hb_getR σ x0 1 2).bind fun r3 =>
  (hb_on σ r3 7 (f_X7_oneOf r3 3 σ)).bind fun r4 =>
  (hb_iast r4.2 r1 r2 r4.1).bind fun r5 =>
  (hb_getR r5 x0 1 3).bind fun r6 =>
  (hb_getI r5 x0 1 7).bind fun r7 =>
  (hb_iald r5 r6 r7).bind fun r8 =>
  if r8 = (43 : Int32) then
    (hb_on r5 x0 1 (f_X1_readPair x0 r5)).bind fun r10 =>
    f_X1_readOne_b152 x0 r10
  else if r8 = (45 : Int32) then
    (hb_on r5 x0 1 (f_X1_readPair x0 r5)).bind fun r12 =>
    f_X1_readOne_b152 x0 r12
  else if r8 = (97 : Int32) then
    (hb_getR r5 x0 1 4).bind fun r14 =>
    (hb_getI r5 x0 1 7).bind fun r15 =>
    (hb_getR r5 x0 1 2).bind fun r16 =>
    (hb_on r5 r16 7 (f_X7_number r16 (1 : Int32) r5)).bind fun r17 =>
    (hb_iast r17.2 r14 r15 r17.1).bind fun r18 =>
    f_X1_readOne_b152 x0 r18
  else if r8 = (110 : Int32) then
    (hb_getR r5 x0 1 4).bind fun r20 =>
    (hb_getI r5 x0 1 7).bind fun r21 =>
    (hb_getR r5 x0 1 2).bind fun r22 =>
    (hb_on r5 r22 7 (f_X7_number r22 (1 : Int32) r5)).bind fun r23 =>
    (hb_iast r23.2 r20 r21 r23.1).bind fun r24 =>
    f_X1_readOne_b152 x0 r24
  else if r8 = (115 : Int32) then
    (hb_on r5 x0 1 (f_X1_readPair x0 r5)).bind fun r26 =>
    (hb_getR r26 x0 1 2).bind fun r27 =>
    (hb_on r26 r27 7 (f_X7_expect r27 (44 : Int32) r26)).bind fun r28 =>
    (hb_getR r28 x0 1 6).bind fun r29 =>
    (hb_getI r28 x0 1 7).bind fun r30 =>
    (hb_getR r28 x0 1 2).bind fun r31 =>
    (hb_on r28 r31 7 (f_X7_skip r31 (45 : Int32) r28)).bind fun r32 =>
    if r32.1 = 0 then
      (hb_getR r32.2 x0 1 2).bind fun r34 =>
      (hb_on r32.2 r34 7 (f_X7_number r34 (2 : Int32) r32.2)).bind fun r35 =>
      f_X1_readOne_b141 x0 r29 r30 r35.1 r35.2
    else
      f_X1_readOne_b141 x0 r29 r30 (-1 : Int32) r32.2
  else 
    f_X1_readOne_b152 x0 r5
def f_X1_read_b12 : Nat → Nat → hb_M → Option hb_M
  | 0, _, _ => none
  | n + 1, x0, σ =>
    (hb_getI σ x0 1 7).bind fun r1 =>
    if (100 : Int32) ≤ r1 then
      some σ
    else
      (hb_getR σ x0 1 2).bind fun r3 =>
      (hb_getI σ r3 7 3).bind fun r4 =>
      if r4 = 0 then
        (hb_getR σ x0 1 2).bind fun r6 =>
        (hb_on σ r6 7 (f_X7_atEnd r6 σ)).bind fun r7 =>
        if r7.1 = 0 then
          (hb_on r7.2 x0 1 (f_X1_readOne x0 r7.2)).bind fun r9 =>
          (hb_getI r9 x0 1 7).bind fun r10 =>
          (hb_putI r9 x0 1 7 (r10 + (1 : Int32))).bind fun r11 =>
          f_X1_read_b12 n x0 r11
        else
          some r7.2
      else
        some σ
def f_X1_read (x0 : Nat) (σ : hb_M) : Option hb_M :=
  (hb_getR σ x0 1 2).bind fun r1 =>
  (hb_on σ r1 7 (f_X7_begin r1 σ)).bind fun r2 =>
  (hb_putI r2 x0 1 7 (0 : Int32)).bind fun r3 =>
  f_X1_read_b12 hb_FU x0 r3
def f_X1_problemOfCommand (x0 : Nat) (x1 : Int32) (σ : hb_M) : Option (Int32 × hb_M) :=
  (hb_getR σ x0 1 3).bind fun r1 =>
  (hb_iald σ r1 x1).bind fun r2 =>
  if r2 = (43 : Int32) then
    (hb_getR σ x0 1 0).bind fun r4 =>
    (hb_getR σ x0 1 4).bind fun r5 =>
    (hb_iald σ r5 x1).bind fun r6 =>
    (hb_getR σ x0 1 5).bind fun r7 =>
    (hb_iald σ r7 x1).bind fun r8 =>
    (hb_on σ r4 4 (f_X4_problemOfRoot r4 r6 r8 σ)).bind fun r9 =>
    some (r9.1, r9.2)
  else if r2 = (45 : Int32) then
    (hb_getR σ x0 1 0).bind fun r11 =>
    (hb_getR σ x0 1 4).bind fun r12 =>
    (hb_iald σ r12 x1).bind fun r13 =>
    (hb_getR σ x0 1 5).bind fun r14 =>
    (hb_iald σ r14 x1).bind fun r15 =>
    (hb_on σ r11 4 (f_X4_problemOfUnrooting r11 r13 r15 σ)).bind fun r16 =>
    some (r16.1, r16.2)
  else if r2 = (97 : Int32) then
    (hb_getR σ x0 1 0).bind fun r18 =>
    (hb_getR σ x0 1 4).bind fun r19 =>
    (hb_iald σ r19 x1).bind fun r20 =>
    (hb_on σ r18 4 (f_X4_problemOfArray r18 r20 σ)).bind fun r21 =>
    some (r21.1, r21.2)
  else if r2 = (110 : Int32) then
    (hb_getR σ x0 1 0).bind fun r23 =>
    (hb_getR σ x0 1 4).bind fun r24 =>
    (hb_iald σ r24 x1).bind fun r25 =>
    (hb_on σ r23 4 (f_X4_problemOfInstance r23 r25 σ)).bind fun r26 =>
    some (r26.1, r26.2)
  else if r2 = (115 : Int32) then
    (hb_getR σ x0 1 0).bind fun r28 =>
    (hb_getR σ x0 1 4).bind fun r29 =>
    (hb_iald σ r29 x1).bind fun r30 =>
    (hb_getR σ x0 1 5).bind fun r31 =>
    (hb_iald σ r31 x1).bind fun r32 =>
    (hb_getR σ x0 1 6).bind fun r33 =>
    (hb_iald σ r33 x1).bind fun r34 =>
    (hb_on σ r28 4 (f_X4_problemOfTarget r28 r30 r32 r34 σ)).bind fun r35 =>
    some (r35.1, r35.2)
  else if r2 = (119 : Int32) then
    (hb_getR σ x0 1 0).bind fun r37 =>
    (hb_on σ r37 4 (f_X4_problemOfHolder r37 σ)).bind fun r38 =>
    some (r38.1, r38.2)
  else 
    some ((0 : Int32), σ)
def f_X1_runOne (x0 : Nat) (x1 : Int32) (σ : hb_M) : Option hb_M :=
  (hb_getR σ x0 1 4).bind fun r1 =>
  (hb_iald σ r1 x1).bind fun r2 =>
  (hb_getR σ x0 1 5).bind fun r3 =>
  (hb_iald σ r3 x1).bind fun r4 =>
  (hb_getR σ x0 1 3).bind fun r5 =>
  (hb_iald σ r5 x1).bind fun r6 =>
  if r6 = (43 : Int32) then
    (hb_getR σ x0 1 0).bind fun r8 =>
    (hb_getR σ x0 1 0).bind fun r9 =>
    (hb_getR σ r9 4 9).bind fun r10 =>
    (hb_iald σ r10 r2).bind fun r11 =>
    (hb_on σ r8 4 (f_X4_putRoots r8 r2 (r11 ||| ((1 : Int32) <<< (r4 &&& 31))) σ)).bind fun r12 =>
    some r12.2
  else if r6 = (45 : Int32) then
    (hb_getR σ x0 1 0).bind fun r14 =>
    (hb_getR σ x0 1 0).bind fun r15 =>
    (hb_getR σ r15 4 9).bind fun r16 =>
    (hb_iald σ r16 r2).bind fun r17 =>
    (hb_on σ r14 4 (f_X4_putRoots r14 r2 (r17 &&& (((1 : Int32) <<< (r4 &&& 31)) ^^^ (-1 : Int32))) σ)).bind fun r18 =>
    some r18.2
  else if r6 = (97 : Int32) then
    (hb_getR σ x0 1 0).bind fun r20 =>
    (hb_on σ r20 4 (f_X4_addArray r20 r2 σ)).bind fun r21 =>
    some r21.2
  else if r6 = (110 : Int32) then
    (hb_getR σ x0 1 0).bind fun r23 =>
    (hb_on σ r23 4 (f_X4_addInstance r23 r2 σ)).bind fun r24 =>
    some r24.2
  else if r6 = (115 : Int32) then
    (hb_getR σ x0 1 0).bind fun r26 =>
    (hb_getR σ x0 1 6).bind fun r27 =>
    (hb_iald σ r27 x1).bind fun r28 =>
    (hb_on σ r26 4 (f_X4_putTarget r26 r2 r4 r28 σ)).bind fun r29 =>
    some r29.2
  else if r6 = (119 : Int32) then
    (hb_getR σ x0 1 0).bind fun r31 =>
    (hb_on σ r31 4 (f_X4_addHolder r31 σ)).bind fun r32 =>
    some r32.2
  else 
    (hb_getR σ x0 1 1).bind fun r33 =>
    (hb_on σ r33 0 (f_X0_removeGarbage r33 σ)).bind fun r34 =>
    some r34.2
def f_X1_run_b2 : Nat → Nat → Int32 → hb_M → Option (Int32 × hb_M)
  | 0, _, _, _ => none
  | n + 1, x0, x1, σ =>
    (hb_getI σ x0 1 7).bind fun r1 =>
    if r1 ≤ x1 then
      some ((-1 : Int32), σ)
    else
      if (100 : Int32) ≤ x1 then
        some ((-1 : Int32), σ)
      else
        (hb_on σ x0 1 (f_X1_problemOfCommand x0 x1 σ)).bind fun r4 =>
        if r4.1 = 0 then
          (hb_on r4.2 x0 1 (f_X1_runOne x0 x1 r4.2)).bind fun r6 =>
          f_X1_run_b2 n x0 (x1 + (1 : Int32)) r6
        else
          some (x1, r4.2)
def f_X1_run (x0 : Nat) (σ : hb_M) : Option (Int32 × hb_M) :=
  f_X1_run_b2 hb_FU x0 (0 : Int32) σ
def f_X3_init (x0 : Nat) (x1 : Nat) (x2 : Nat) (x3 : Nat) (σ : hb_M) : Option hb_M :=
  (hb_putR σ x0 3 0 x1).bind fun r1 =>
  (hb_putR r1 x0 3 1 x2).bind fun r2 =>
  (hb_putR r2 x0 3 2 x3).bind fun r3 =>
  some r3
def f_X3_negated_b31 (k4 : Nat → Int32 → Int32 → hb_M → Option (Int32 × hb_M)) (x0 : Nat) (x2 : Int32) (s0 : Int32) (σ : hb_M) : Option (Int32 × hb_M) :=
  k4 x0 s0 (x2 + (1 : Int32)) σ
def f_X3_negated_b4 : Nat → Nat → Int32 → Int32 → hb_M → Option (Int32 × hb_M)
  | 0, _, _, _, _ => none
  | n + 1, x0, x1, x2, σ =>
    if (100 : Int32) ≤ x2 then
      hb_zr x1 σ
    else
      (hb_getR σ x0 3 2).bind fun r2 =>
      (hb_on σ r2 7 (f_X7_skip r2 (33 : Int32) σ)).bind fun r3 =>
      if r3.1 = 0 then
        hb_zr x1 r3.2
      else
        if x1 = 0 then
          f_X3_negated_b31 (f_X3_negated_b4 n) x0 x2 (1 : Int32) r3.2
        else
          f_X3_negated_b31 (f_X3_negated_b4 n) x0 x2 (0 : Int32) r3.2
def f_X3_negated (x0 : Nat) (σ : hb_M) : Option (Int32 × hb_M) :=
  f_X3_negated_b4 hb_FU x0 (0 : Int32) (0 : Int32) σ
def f_X3_instancesOf (x0 : Nat) (x1 : Int32) (σ : hb_M) : Option (Int64 × hb_M) :=
  (hb_getR σ x0 3 0).bind fun r1 =>
  (hb_on σ r1 4 (f_X4_hasClass r1 x1 σ)).bind fun r2 =>
  if r2.1 = 0 then
    some ((0 : Int64), r2.2)
  else
    (hb_getR r2.2 x0 3 0).bind fun r4 =>
    (hb_on r2.2 r4 4 (f_X4_membersOf r4 x1 (1 : Int32) r2.2)).bind fun r5 =>
    some (r5.1, r5.2)
def f_X3_valueOf (x0 : Nat) (x1 : Int32) (x2 : Int32) (σ : hb_M) : Option (Int32 × hb_M) :=
  if x2 = (97 : Int32) then
    (hb_getR σ x0 3 0).bind fun r2 =>
    (hb_getR σ r2 4 8).bind fun r3 =>
    (hb_iald σ r3 x1).bind fun r4 =>
    some (r4, σ)
  else if x2 = (100 : Int32) then
    (hb_getR σ x0 3 1).bind fun r6 =>
    (hb_getR σ r6 0 1).bind fun r7 =>
    (hb_getR σ r7 6 1).bind fun r8 =>
    (hb_iald σ r8 x1).bind fun r9 =>
    if r9 = (-1 : Int32) then
      some ((99 : Int32), σ)
    else
      (hb_getR σ x0 3 1).bind fun r11 =>
      (hb_getR σ r11 0 1).bind fun r12 =>
      (hb_getR σ r12 6 1).bind fun r13 =>
      (hb_iald σ r13 x1).bind fun r14 =>
      some (r14, σ)
  else if x2 = (105 : Int32) then
    (hb_getR σ x0 3 1).bind fun r16 =>
    (hb_getR σ r16 0 7).bind fun r17 =>
    (hb_iald σ r17 x1).bind fun r18 =>
    some (r18, σ)
  else if x2 = (110 : Int32) then
    some (x1, σ)
  else if x2 = (111 : Int32) then
    (hb_getR σ x0 3 1).bind fun r21 =>
    (hb_getR σ r21 0 8).bind fun r22 =>
    (hb_iald σ r22 x1).bind fun r23 =>
    some (r23, σ)
  else if x2 = (114 : Int32) then
    (hb_getR σ x0 3 1).bind fun r25 =>
    (hb_getR σ r25 0 6).bind fun r26 =>
    (hb_iald σ r26 x1).bind fun r27 =>
    some (r27, σ)
  else if x2 = (115 : Int32) then
    (hb_getR σ x0 3 0).bind fun r29 =>
    (hb_getR σ r29 4 6).bind fun r30 =>
    (hb_iald σ r30 x1).bind fun r31 =>
    some (r31, σ)
  else 
    (hb_getR σ x0 3 0).bind fun r32 =>
    (hb_getR σ r32 4 4).bind fun r33 =>
    (hb_iald σ r33 x1).bind fun r34 =>
    some (r34, σ)
def f_X3_isSo (x0 : Int32) (x1 : Int32) (x2 : Int32) (σ : hb_M) : Option (Int32 × hb_M) :=
  if x1 = (60 : Int32) then
    if x2 ≤ x0 then
      some ((0 : Int32), σ)
    else
      some ((1 : Int32), σ)
  else if x1 = (61 : Int32) then
    if x0 = x2 then
      some ((1 : Int32), σ)
    else
      some ((0 : Int32), σ)
  else 
    if x0 ≤ x2 then
      some ((0 : Int32), σ)
    else
      some ((1 : Int32), σ)
def f_X3_relation_b102 (k35 : Nat → Int32 → Int32 → Int32 → Int64 → Int32 → hb_M → Option (Int64 × hb_M)) (x0 : Nat) (x1 : Int32) (x2 : Int32) (x3 : Int32) (x6 : Int32) (s0 : Int64) (s1 : Int64) (σ : hb_M) : Option (Int64 × hb_M) :=
  k35 x0 x1 x2 x3 (s0 ||| s1) (x6 + (1 : Int32)) σ
def f_X3_relation_b84 (k35 : Nat → Int32 → Int32 → Int32 → Int64 → Int32 → hb_M → Option (Int64 × hb_M)) (x0 : Nat) (x1 : Int32) (x2 : Int32) (x3 : Int32) (x4 : Int64) (x6 : Int32) (s0 : Int32) (σ : hb_M) : Option (Int64 × hb_M) :=
  if s0 = 0 then
    f_X3_relation_b102 k35 x0 x1 x2 x3 x6 x4 (0 : Int64) σ
  else
    (f_X8_member x6 σ).bind fun r2 =>
    f_X3_relation_b102 k35 x0 x1 x2 x3 x6 x4 r2.1 r2.2
def f_X3_relation_b83 (k35 : Nat → Int32 → Int32 → Int32 → Int64 → Int32 → hb_M → Option (Int64 × hb_M)) (x0 : Nat) (x1 : Int32) (x2 : Int32) (x3 : Int32) (x4 : Int64) (x6 : Int32) (σ : hb_M) : Option (Int64 × hb_M) :=
  f_X3_relation_b84 k35 x0 x1 x2 x3 x4 x6 (0 : Int32) σ
def f_X3_relation_b35 : Nat → Nat → Int32 → Int32 → Int32 → Int64 → Int32 → hb_M → Option (Int64 × hb_M)
  | 0, _, _, _, _, _, _, _ => none
  | n + 1, x0, x1, x2, x3, x4, x6, σ =>
    if (40 : Int32) ≤ x6 then
      some (x4, σ)
    else
      (hb_getR σ x0 3 2).bind fun r2 =>
      (hb_getI σ r2 7 3).bind fun r3 =>
      if r3 = 0 then
        (hb_getR σ x0 3 0).bind fun r5 =>
        (hb_on σ r5 4 (f_X4_hasObject r5 x6 σ)).bind fun r6 =>
        if r6.1 = 0 then
          f_X3_relation_b83 (f_X3_relation_b35 n) x0 x1 x2 x3 x4 x6 r6.2
        else
          (hb_on r6.2 x0 3 (f_X3_valueOf x0 x6 x1 r6.2)).bind fun r8 =>
          (f_X3_isSo r8.1 x2 x3 r8.2).bind fun r9 =>
          if r9.1 = 0 then
            f_X3_relation_b83 (f_X3_relation_b35 n) x0 x1 x2 x3 x4 x6 r9.2
          else
            f_X3_relation_b84 (f_X3_relation_b35 n) x0 x1 x2 x3 x4 x6 (1 : Int32) r9.2
      else
        some (x4, σ)
def f_X3_relation (x0 : Nat) (σ : hb_M) : Option (Int64 × hb_M) :=
  (hb_getR σ x0 3 2).bind fun r1 =>
  (hb_on σ r1 7 (f_X7_oneOf r1 1 σ)).bind fun r2 =>
  (hb_getR r2.2 x0 3 2).bind fun r3 =>
  (hb_on r2.2 r3 7 (f_X7_oneOf r3 2 r2.2)).bind fun r4 =>
  (hb_getR r4.2 x0 3 2).bind fun r5 =>
  (hb_on r4.2 r5 7 (f_X7_number r5 (4 : Int32) r4.2)).bind fun r6 =>
  f_X3_relation_b35 hb_FU x0 r2.1 r4.1 r6.1 (0 : Int64) (0 : Int32) r6.2
def f_X3_unit_b99 (kF : Nat → Int32 → hb_M → Option (Int64 × hb_M)) (x0 : Nat) (x2 : Int32) (x3 : Int64) (σ : hb_M) : Option (Int64 × hb_M) :=
  if x2 = 0 then
    some (x3, σ)
  else
    (hb_getR σ x0 3 0).bind fun r2 =>
    (hb_on σ r2 4 (f_X4_allObjects r2 σ)).bind fun r3 =>
    some ((r3.1 &&& (x3 ^^^ (-1 : Int64))), r3.2)
def f_X3_unit_b43 (kF : Nat → Int32 → hb_M → Option (Int64 × hb_M)) (x0 : Nat) (x2 : Int32) (σ : hb_M) : Option (Int64 × hb_M) :=
  (hb_getR σ x0 3 2).bind fun r1 =>
  (hb_on σ r1 7 (f_X7_skip r1 (42 : Int32) σ)).bind fun r2 =>
  if r2.1 = 0 then
    (hb_getR r2.2 x0 3 2).bind fun r4 =>
    (hb_on r2.2 r4 7 (f_X7_skip r4 (64 : Int32) r2.2)).bind fun r5 =>
    if r5.1 = 0 then
      (hb_on r5.2 x0 3 (f_X3_relation x0 r5.2)).bind fun r7 =>
      f_X3_unit_b99 kF x0 x2 r7.1 r7.2
    else
      (hb_getR r5.2 x0 3 2).bind fun r8 =>
      (hb_on r5.2 r8 7 (f_X7_number r8 (1 : Int32) r5.2)).bind fun r9 =>
      (hb_on r9.2 x0 3 (f_X3_instancesOf x0 r9.1 r9.2)).bind fun r10 =>
      f_X3_unit_b99 kF x0 x2 r10.1 r10.2
  else
    (hb_getR r2.2 x0 3 0).bind fun r11 =>
    (hb_on r2.2 r11 4 (f_X4_allRoots r11 r2.2)).bind fun r12 =>
    f_X3_unit_b99 kF x0 x2 r12.1 r12.2
def f_X3_unit (kF : Nat → Int32 → hb_M → Option (Int64 × hb_M)) (x0 : Nat) (x1 : Int32) (σ : hb_M) : Option (Int64 × hb_M) :=
  (hb_on σ x0 3 (f_X3_negated x0 σ)).bind fun r1 =>
  if (8 : Int32) ≤ x1 then
    f_X3_unit_b43 kF x0 r1.1 r1.2
  else
    (hb_getR r1.2 x0 3 2).bind fun r3 =>
    (hb_on r1.2 r3 7 (f_X7_skip r3 (40 : Int32) r1.2)).bind fun r4 =>
    if r4.1 = 0 then
      f_X3_unit_b43 kF x0 r1.1 r4.2
    else
      (hb_on r4.2 x0 3 (kF x0 (x1 + (1 : Int32)) r4.2)).bind fun r6 =>
      (hb_getR r6.2 x0 3 2).bind fun r7 =>
      (hb_on r6.2 r7 7 (f_X7_expect r7 (41 : Int32) r6.2)).bind fun r8 =>
      f_X3_unit_b99 kF x0 r1.1 r6.1 r8
def f_X3_part_b9 (kF : Nat → Int32 → hb_M → Option (Int64 × hb_M)) : Nat → Nat → Int32 → Int64 → Int32 → hb_M → Option (Int64 × hb_M)
  | 0, _, _, _, _, _ => none
  | n + 1, x0, x1, x2, x4, σ =>
    if (100 : Int32) ≤ x4 then
      some (x2, σ)
    else
      (hb_getR σ x0 3 2).bind fun r2 =>
      (hb_on σ r2 7 (f_X7_skip r2 (38 : Int32) σ)).bind fun r3 =>
      if r3.1 = 0 then
        some (x2, r3.2)
      else
        (hb_on r3.2 x0 3 (f_X3_unit kF x0 x1 r3.2)).bind fun r5 =>
        f_X3_part_b9 kF n x0 x1 (x2 &&& r5.1) (x4 + (1 : Int32)) r5.2
def f_X3_part (kF : Nat → Int32 → hb_M → Option (Int64 × hb_M)) (x0 : Nat) (x1 : Int32) (σ : hb_M) : Option (Int64 × hb_M) :=
  (hb_on σ x0 3 (f_X3_unit kF x0 x1 σ)).bind fun r1 =>
  f_X3_part_b9 kF hb_FU x0 x1 r1.1 (1 : Int32) r1.2
def f_X3_filter_b9 (kF : Nat → Int32 → hb_M → Option (Int64 × hb_M)) : Nat → Nat → Int32 → Int64 → Int32 → hb_M → Option (Int64 × hb_M)
  | 0, _, _, _, _, _ => none
  | n + 1, x0, x1, x2, x4, σ =>
    if (100 : Int32) ≤ x4 then
      some (x2, σ)
    else
      (hb_getR σ x0 3 2).bind fun r2 =>
      (hb_on σ r2 7 (f_X7_skip r2 (124 : Int32) σ)).bind fun r3 =>
      if r3.1 = 0 then
        some (x2, r3.2)
      else
        (hb_on r3.2 x0 3 (f_X3_part kF x0 x1 r3.2)).bind fun r5 =>
        f_X3_filter_b9 kF n x0 x1 (x2 ||| r5.1) (x4 + (1 : Int32)) r5.2
def f_X3_filter (kF : Nat → Int32 → hb_M → Option (Int64 × hb_M)) (x0 : Nat) (x1 : Int32) (σ : hb_M) : Option (Int64 × hb_M) :=
  (hb_on σ x0 3 (f_X3_part kF x0 x1 σ)).bind fun r1 =>
  f_X3_filter_b9 kF hb_FU x0 x1 r1.1 (1 : Int32) r1.2
def f_X3_filterN : Nat → Nat → Int32 → hb_M → Option (Int64 × hb_M)
  | 0, _, _, _ => none
  | n + 1, x0, x1, σ => f_X3_filter (f_X3_filterN n) x0 x1 σ
def f_X3_apply (x0 : Nat) (σ : hb_M) : Option (Int64 × hb_M) :=
  (hb_getR σ x0 3 1).bind fun r1 =>
  (hb_on σ r1 0 (f_X0_refresh r1 σ)).bind fun r2 =>
  (hb_getR r2 x0 3 2).bind fun r3 =>
  (hb_on r2 r3 7 (f_X7_begin r3 r2)).bind fun r4 =>
  (hb_on r4 x0 3 (f_X3_filterN 10 x0 (0 : Int32) r4)).bind fun r5 =>
  (hb_getR r5.2 x0 3 2).bind fun r6 =>
  (hb_on r5.2 r6 7 (f_X7_atEnd r6 r5.2)).bind fun r7 =>
  if r7.1 = 0 then
    (hb_getR r7.2 x0 3 2).bind fun r9 =>
    (hb_on r7.2 r9 7 (f_X7_fail r9 r7.2)).bind fun r10 =>
    some (r5.1, r10)
  else
    some (r5.1, r7.2)
