def f_J7_fill_53178_b5 : Nat → Nat → Int32 → Int32 → Int32 → hb_M → Option hb_M
  | 0, _, _, _, _, _ => none
  | n + 1, x0, x1, x2, x3, σ =>
    if x3 ≤ x2 then
      some σ
    else
      (hb_iast σ x0 x2 x1).bind fun r2 =>
      f_J7_fill_53178_b5 n x0 x1 (x2 + (1 : Int32)) x3 r2
def f_J7_fill_53178 (x0 : Nat) (x1 : Int32) (σ : hb_M) : Option hb_M :=
  (hb_alen σ x0).bind fun r1 =>
  f_J7_fill_53178_b5 hb_FU x0 x1 (0 : Int32) r1 σ
def f_X4_init (x0 : Nat) (σ : hb_M) : Option hb_M :=
  (hb_newA σ 0 (10 : Int32)).bind fun r1 =>
  (hb_putR r1.2 x0 4 1 r1.1).bind fun r2 =>
  (hb_newA r2 0 (10 : Int32)).bind fun r3 =>
  (hb_putR r3.2 x0 4 2 r3.1).bind fun r4 =>
  (hb_newA r4 0 (10 : Int32)).bind fun r5 =>
  (hb_putR r5.2 x0 4 3 r5.1).bind fun r6 =>
  (hb_newA r6 0 (40 : Int32)).bind fun r7 =>
  (hb_putR r7.2 x0 4 4 r7.1).bind fun r8 =>
  (hb_newA r8 0 (40 : Int32)).bind fun r9 =>
  (hb_putR r9.2 x0 4 5 r9.1).bind fun r10 =>
  (hb_newA r10 0 (40 : Int32)).bind fun r11 =>
  (hb_putR r11.2 x0 4 6 r11.1).bind fun r12 =>
  (hb_newA r12 0 (40 : Int32)).bind fun r13 =>
  (hb_putR r13.2 x0 4 7 r13.1).bind fun r14 =>
  (hb_newA r14 0 (40 : Int32)).bind fun r15 =>
  (hb_putR r15.2 x0 4 8 r15.1).bind fun r16 =>
  (hb_newA r16 0 (40 : Int32)).bind fun r17 =>
  (hb_putR r17.2 x0 4 9 r17.1).bind fun r18 =>
  (hb_newA r18 0 (320 : Int32)).bind fun r19 =>
  (hb_putR r19.2 x0 4 10 r19.1).bind fun r20 =>
  (hb_putI r20 x0 4 0 (1 : Int32)).bind fun r21 =>
  (hb_getR r21 x0 4 1).bind fun r22 =>
  (hb_iast r21 r22 (0 : Int32) (-1 : Int32)).bind fun r23 =>
  (hb_getR r23 x0 4 4).bind fun r24 =>
  (f_J7_fill_53178 r24 (-1 : Int32) r23).bind fun r25 =>
  (hb_getR r25 x0 4 10).bind fun r26 =>
  (f_J7_fill_53178 r26 (-1 : Int32) r25).bind fun r27 =>
  (hb_putI r27 x0 4 11 (1 : Int32)).bind fun r28 =>
  some r28
def f_X4_copyFrom (x0 : Nat) (x1 : Nat) (σ : hb_M) : Option hb_M :=
  (hb_getI σ x1 4 0).bind fun r1 =>
  (hb_putI σ x0 4 0 r1).bind fun r2 =>
  (hb_getR r2 x1 4 1).bind fun r3 =>
  (hb_getR r2 x0 4 1).bind fun r4 =>
  (hb_copy r2 r3 (0 : Int32) r4 (0 : Int32) (10 : Int32)).bind fun r5 =>
  (hb_getR r5 x1 4 2).bind fun r6 =>
  (hb_getR r5 x0 4 2).bind fun r7 =>
  (hb_copy r5 r6 (0 : Int32) r7 (0 : Int32) (10 : Int32)).bind fun r8 =>
  (hb_getR r8 x1 4 3).bind fun r9 =>
  (hb_getR r8 x0 4 3).bind fun r10 =>
  (hb_copy r8 r9 (0 : Int32) r10 (0 : Int32) (10 : Int32)).bind fun r11 =>
  (hb_getR r11 x1 4 4).bind fun r12 =>
  (hb_getR r11 x0 4 4).bind fun r13 =>
  (hb_copy r11 r12 (0 : Int32) r13 (0 : Int32) (40 : Int32)).bind fun r14 =>
  (hb_getR r14 x1 4 5).bind fun r15 =>
  (hb_getR r14 x0 4 5).bind fun r16 =>
  (hb_copy r14 r15 (0 : Int32) r16 (0 : Int32) (40 : Int32)).bind fun r17 =>
  (hb_getR r17 x1 4 6).bind fun r18 =>
  (hb_getR r17 x0 4 6).bind fun r19 =>
  (hb_copy r17 r18 (0 : Int32) r19 (0 : Int32) (40 : Int32)).bind fun r20 =>
  (hb_getR r20 x1 4 7).bind fun r21 =>
  (hb_getR r20 x0 4 7).bind fun r22 =>
  (hb_copy r20 r21 (0 : Int32) r22 (0 : Int32) (40 : Int32)).bind fun r23 =>
  (hb_getR r23 x1 4 8).bind fun r24 =>
  (hb_getR r23 x0 4 8).bind fun r25 =>
  (hb_copy r23 r24 (0 : Int32) r25 (0 : Int32) (40 : Int32)).bind fun r26 =>
  (hb_getR r26 x1 4 9).bind fun r27 =>
  (hb_getR r26 x0 4 9).bind fun r28 =>
  (hb_copy r26 r27 (0 : Int32) r28 (0 : Int32) (40 : Int32)).bind fun r29 =>
  (hb_getR r29 x1 4 10).bind fun r30 =>
  (hb_getR r29 x0 4 10).bind fun r31 =>
  (hb_copy r29 r30 (0 : Int32) r31 (0 : Int32) (320 : Int32)).bind fun r32 =>
  (hb_getI r32 x1 4 11).bind fun r33 =>
  (hb_putI r32 x0 4 11 r33).bind fun r34 =>
  (hb_getI r34 x0 4 12).bind fun r35 =>
  (hb_putI r34 x0 4 12 (r35 + (1 : Int32))).bind fun r36 =>
  some r36
def f_X4_hasClass (x0 : Nat) (x1 : Int32) (σ : hb_M) : Option (Int32 × hb_M) :=
  if x1 < 0 then
    some ((0 : Int32), σ)
  else
    (hb_getI σ x0 4 0).bind fun r2 =>
    if r2 ≤ x1 then
      some ((0 : Int32), σ)
    else
      some ((1 : Int32), σ)
def f_X4_hasGroup (x0 : Nat) (x1 : Int32) (σ : hb_M) : Option (Int32 × hb_M) :=
  (hb_on σ x0 4 (f_X4_hasClass x0 x1 σ)).bind fun r1 =>
  if r1.1 = 0 then
    if x1 = (10 : Int32) then
      some ((1 : Int32), r1.2)
    else
      if x1 = (11 : Int32) then
        some ((1 : Int32), r1.2)
      else
        some ((0 : Int32), r1.2)
  else
    some ((1 : Int32), r1.2)
def f_X4_hasObject (x0 : Nat) (x1 : Int32) (σ : hb_M) : Option (Int32 × hb_M) :=
  if x1 < 0 then
    some ((0 : Int32), σ)
  else
    if (40 : Int32) ≤ x1 then
      some ((0 : Int32), σ)
    else
      (hb_getR σ x0 4 4).bind fun r3 =>
      (hb_iald σ r3 x1).bind fun r4 =>
      if r4 = (-1 : Int32) then
        some ((0 : Int32), σ)
      else
        some ((1 : Int32), σ)
def f_X4_hasSlot (x0 : Nat) (x1 : Int32) (x2 : Int32) (σ : hb_M) : Option (Int32 × hb_M) :=
  (hb_on σ x0 4 (f_X4_hasObject x0 x1 σ)).bind fun r1 =>
  if r1.1 = 0 then
    some ((0 : Int32), r1.2)
  else
    if x2 < 0 then
      some ((0 : Int32), r1.2)
    else
      (hb_getR r1.2 x0 4 7).bind fun r4 =>
      (hb_iald r1.2 r4 x1).bind fun r5 =>
      if r5 ≤ x2 then
        some ((0 : Int32), r1.2)
      else
        some ((1 : Int32), r1.2)
def f_X4_problemOfClass_b34 (x0 : Nat) (x1 : Int32) (x2 : Int32) (s0 : Int32) (σ : hb_M) : Option (Int32 × hb_M) :=
  if s0 = 0 then
    some ((2 : Int32), σ)
  else
    (hb_getR σ x0 4 2).bind fun r2 =>
    (hb_iald σ r2 x1).bind fun r3 =>
    if (r3 + x2) ≤ (5 : Int32) then
      (hb_getI σ x0 4 0).bind fun r5 =>
      if (10 : Int32) ≤ r5 then
        some ((3 : Int32), σ)
      else
        some ((0 : Int32), σ)
    else
      some ((2 : Int32), σ)
def f_X4_problemOfClass_b33 (x0 : Nat) (x1 : Int32) (x2 : Int32) (σ : hb_M) : Option (Int32 × hb_M) :=
  f_X4_problemOfClass_b34 x0 x1 x2 (0 : Int32) σ
def f_X4_problemOfClass (x0 : Nat) (x1 : Int32) (x2 : Int32) (x3 : Int32) (σ : hb_M) : Option (Int32 × hb_M) :=
  (hb_on σ x0 4 (f_X4_hasClass x0 x1 σ)).bind fun r1 =>
  if r1.1 = 0 then
    some ((1 : Int32), r1.2)
  else
    if x2 < 0 then
      f_X4_problemOfClass_b33 x0 x1 x2 r1.2
    else
      if (3 : Int32) < x2 then
        f_X4_problemOfClass_b33 x0 x1 x2 r1.2
      else
        if x3 < 0 then
          f_X4_problemOfClass_b33 x0 x1 x2 r1.2
        else
          if (40 : Int32) < x3 then
            f_X4_problemOfClass_b33 x0 x1 x2 r1.2
          else
            f_X4_problemOfClass_b34 x0 x1 x2 (1 : Int32) r1.2
def f_X8_member (x0 : Int32) (σ : hb_M) : Option (Int64 × hb_M) :=
  if x0 < 0 then
    some ((0 : Int64), σ)
  else
    if (40 : Int32) ≤ x0 then
      some ((0 : Int64), σ)
    else
      some (((1 : Int64) <<< (x0.toInt64 &&& 63)), σ)
def f_X4_allObjects_b29 (k4 : Nat → Int64 → Int32 → hb_M → Option (Int64 × hb_M)) (x0 : Nat) (x3 : Int32) (s0 : Int64) (s1 : Int64) (σ : hb_M) : Option (Int64 × hb_M) :=
  k4 x0 (s0 ||| s1) (x3 + (1 : Int32)) σ
def f_X4_allObjects_b4 : Nat → Nat → Int64 → Int32 → hb_M → Option (Int64 × hb_M)
  | 0, _, _, _, _ => none
  | n + 1, x0, x1, x3, σ =>
    if (40 : Int32) ≤ x3 then
      some (x1, σ)
    else
      (hb_getR σ x0 4 4).bind fun r2 =>
      (hb_iald σ r2 x3).bind fun r3 =>
      if r3 = (-1 : Int32) then
        f_X4_allObjects_b29 (f_X4_allObjects_b4 n) x0 x3 x1 (0 : Int64) σ
      else
        (f_X8_member x3 σ).bind fun r5 =>
        f_X4_allObjects_b29 (f_X4_allObjects_b4 n) x0 x3 x1 r5.1 r5.2
def f_X4_allObjects (x0 : Nat) (σ : hb_M) : Option (Int64 × hb_M) :=
  f_X4_allObjects_b4 hb_FU x0 (0 : Int64) (0 : Int32) σ
def f_J13_bitCount_95d88 (x0 : Int64) (σ : hb_M) : Option (Int32 × hb_M) :=
  (some (x0 - ((x0.toUInt64 >>> ((1 : Int32).toInt64.toUInt64 &&& Int64.toUInt64 63)).toInt64 &&& (6148914691236517205 : Int64)))).bind fun r1 =>
  (some ((r1 &&& (3689348814741910323 : Int64)) + ((r1.toUInt64 >>> ((2 : Int32).toInt64.toUInt64 &&& Int64.toUInt64 63)).toInt64 &&& (3689348814741910323 : Int64)))).bind fun r2 =>
  (some ((r2 + (r2.toUInt64 >>> ((4 : Int32).toInt64.toUInt64 &&& Int64.toUInt64 63)).toInt64) &&& (1085102592571150095 : Int64))).bind fun r3 =>
  (some (r3 + (r3.toUInt64 >>> ((8 : Int32).toInt64.toUInt64 &&& Int64.toUInt64 63)).toInt64)).bind fun r4 =>
  (some (r4 + (r4.toUInt64 >>> ((16 : Int32).toInt64.toUInt64 &&& Int64.toUInt64 63)).toInt64)).bind fun r5 =>
  (some (r5 + (r5.toUInt64 >>> ((32 : Int32).toInt64.toUInt64 &&& Int64.toUInt64 63)).toInt64)).bind fun r6 =>
  some ((r6.toInt32 &&& (127 : Int32)), σ)
def f_X4_objectCount (x0 : Nat) (σ : hb_M) : Option (Int32 × hb_M) :=
  (hb_on σ x0 4 (f_X4_allObjects x0 σ)).bind fun r1 =>
  (f_J13_bitCount_95d88 r1.1 r1.2).bind fun r2 =>
  some (r2.1, r2.2)
def f_X4_problemOfHolder (x0 : Nat) (σ : hb_M) : Option (Int32 × hb_M) :=
  (hb_on σ x0 4 (f_X4_objectCount x0 σ)).bind fun r1 =>
  if (40 : Int32) ≤ r1.1 then
    some ((3 : Int32), r1.2)
  else
    some ((0 : Int32), r1.2)
def f_X4_problemOfInstance (x0 : Nat) (x1 : Int32) (σ : hb_M) : Option (Int32 × hb_M) :=
  (hb_on σ x0 4 (f_X4_hasClass x0 x1 σ)).bind fun r1 =>
  if r1.1 = 0 then
    some ((1 : Int32), r1.2)
  else
    (hb_on r1.2 x0 4 (f_X4_problemOfHolder x0 r1.2)).bind fun r3 =>
    some (r3.1, r3.2)
def f_X4_problemOfArray (x0 : Nat) (x1 : Int32) (σ : hb_M) : Option (Int32 × hb_M) :=
  if x1 < 0 then
    some ((2 : Int32), σ)
  else
    if (8 : Int32) < x1 then
      some ((2 : Int32), σ)
    else
      (hb_on σ x0 4 (f_X4_problemOfHolder x0 σ)).bind fun r3 =>
      some (r3.1, r3.2)
def f_X4_problemOfTarget_b27 (s0 : Int32) (σ : hb_M) : Option (Int32 × hb_M) :=
  if s0 = 0 then
    some ((1 : Int32), σ)
  else
    some ((0 : Int32), σ)
def f_X4_problemOfTarget_b26 (σ : hb_M) : Option (Int32 × hb_M) :=
  f_X4_problemOfTarget_b27 (0 : Int32) σ
def f_X4_problemOfTarget_b22 (σ : hb_M) : Option (Int32 × hb_M) :=
  f_X4_problemOfTarget_b27 (1 : Int32) σ
def f_X4_problemOfTarget (x0 : Nat) (x1 : Int32) (x2 : Int32) (x3 : Int32) (σ : hb_M) : Option (Int32 × hb_M) :=
  (hb_on σ x0 4 (f_X4_hasSlot x0 x1 x2 σ)).bind fun r1 =>
  if r1.1 = 0 then
    f_X4_problemOfTarget_b26  r1.2
  else
    if x3 = (-1 : Int32) then
      f_X4_problemOfTarget_b22  r1.2
    else
      (hb_on r1.2 x0 4 (f_X4_hasObject x0 x3 r1.2)).bind fun r4 =>
      if r4.1 = 0 then
        f_X4_problemOfTarget_b26  r4.2
      else
        f_X4_problemOfTarget_b22  r4.2
def f_X8_problemOf (x0 : Int32) (x1 : Int32) (x2 : Int32) (σ : hb_M) : Option (Int32 × hb_M) :=
  if x0 = 0 then
    some ((1 : Int32), σ)
  else
    if x1 < 0 then
      some ((2 : Int32), σ)
    else
      if x2 < x1 then
        some ((2 : Int32), σ)
      else
        some ((0 : Int32), σ)
def f_X4_problemOfLength (x0 : Nat) (x1 : Int32) (x2 : Int32) (σ : hb_M) : Option (Int32 × hb_M) :=
  (hb_on σ x0 4 (f_X4_hasObject x0 x1 σ)).bind fun r1 =>
  (f_X8_problemOf r1.1 x2 (8 : Int32) r1.2).bind fun r2 =>
  if r2.1 = 0 then
    (hb_getR r2.2 x0 4 4).bind fun r4 =>
    (hb_iald r2.2 r4 x1).bind fun r5 =>
    if r5 = (10 : Int32) then
      some ((0 : Int32), r2.2)
    else
      some ((3 : Int32), r2.2)
  else
    some (r2.1, r2.2)
def f_X4_problemOfRoot (x0 : Nat) (x1 : Int32) (x2 : Int32) (σ : hb_M) : Option (Int32 × hb_M) :=
  (hb_on σ x0 4 (f_X4_hasObject x0 x1 σ)).bind fun r1 =>
  (f_X8_problemOf r1.1 x2 (2 : Int32) r1.2).bind fun r2 =>
  some (r2.1, r2.2)
def f_X4_problemOfUnrooting (x0 : Nat) (x1 : Int32) (x2 : Int32) (σ : hb_M) : Option (Int32 × hb_M) :=
  (hb_on σ x0 4 (f_X4_problemOfRoot x0 x1 x2 σ)).bind fun r1 =>
  if r1.1 = 0 then
    (hb_getR r1.2 x0 4 9).bind fun r3 =>
    (hb_iald r1.2 r3 x1).bind fun r4 =>
    if ((r4 >>> (x2 &&& 31)) &&& (1 : Int32)) = (1 : Int32) then
      some ((0 : Int32), r1.2)
    else
      some ((3 : Int32), r1.2)
  else
    some (r1.1, r1.2)
def f_X4_addClass (x0 : Nat) (x1 : Int32) (x2 : Int32) (x3 : Int32) (σ : hb_M) : Option (Int32 × hb_M) :=
  (hb_getI σ x0 4 0).bind fun r1 =>
  if (10 : Int32) ≤ r1 then
    some ((-1 : Int32), σ)
  else
    (hb_on σ x0 4 (f_X4_hasClass x0 x1 σ)).bind fun r3 =>
    if r3.1 = 0 then
      some ((-1 : Int32), r3.2)
    else
      (hb_getR r3.2 x0 4 1).bind fun r5 =>
      (hb_getI r3.2 x0 4 0).bind fun r6 =>
      (hb_iast r3.2 r5 r6 x1).bind fun r7 =>
      (hb_getR r7 x0 4 2).bind fun r8 =>
      (hb_getI r7 x0 4 0).bind fun r9 =>
      (hb_getR r7 x0 4 2).bind fun r10 =>
      (hb_iald r7 r10 x1).bind fun r11 =>
      (hb_iast r7 r8 r9 (r11 + x2)).bind fun r12 =>
      (hb_getR r12 x0 4 3).bind fun r13 =>
      (hb_getI r12 x0 4 0).bind fun r14 =>
      (hb_getR r12 x0 4 3).bind fun r15 =>
      (hb_iald r12 r15 x1).bind fun r16 =>
      (hb_iast r12 r13 r14 (r16 + x3)).bind fun r17 =>
      (hb_getI r17 x0 4 0).bind fun r18 =>
      (hb_putI r17 x0 4 0 (r18 + (1 : Int32))).bind fun r19 =>
      (hb_getI r19 x0 4 12).bind fun r20 =>
      (hb_putI r19 x0 4 12 (r20 + (1 : Int32))).bind fun r21 =>
      (hb_getI r21 x0 4 0).bind fun r22 =>
      some ((r22 - (1 : Int32)), r21)
def f_X4_roundedUp (x0 : Int32) (σ : hb_M) : Option (Int32 × hb_M) :=
  some ((((x0 + (7 : Int32)) / (8 : Int32)) * (8 : Int32)), σ)
def f_X4_sizeOfInstance (x0 : Nat) (x1 : Int32) (σ : hb_M) : Option (Int32 × hb_M) :=
  (hb_getR σ x0 4 2).bind fun r1 =>
  (hb_iald σ r1 x1).bind fun r2 =>
  (hb_getR σ x0 4 3).bind fun r3 =>
  (hb_iald σ r3 x1).bind fun r4 =>
  (f_X4_roundedUp (((12 : Int32) + ((4 : Int32) * r2)) + r4) σ).bind fun r5 =>
  some (r5.1, r5.2)
def f_X4_lowestFree_b2 : Nat → Nat → Int32 → hb_M → Option (Int32 × hb_M)
  | 0, _, _, _ => none
  | n + 1, x0, x1, σ =>
    if (40 : Int32) ≤ x1 then
      some ((-1 : Int32), σ)
    else
      (hb_getR σ x0 4 4).bind fun r2 =>
      (hb_iald σ r2 x1).bind fun r3 =>
      if r3 = (-1 : Int32) then
        some (x1, σ)
      else
        f_X4_lowestFree_b2 n x0 (x1 + (1 : Int32)) σ
def f_X4_lowestFree (x0 : Nat) (σ : hb_M) : Option (Int32 × hb_M) :=
  f_X4_lowestFree_b2 hb_FU x0 (0 : Int32) σ
def f_X4_emptySlotsFrom_b2 : Nat → Nat → Int32 → Int32 → hb_M → Option hb_M
  | 0, _, _, _, _ => none
  | n + 1, x0, x1, x3, σ =>
    if (8 : Int32) ≤ x3 then
      some σ
    else
      (hb_getR σ x0 4 10).bind fun r2 =>
      (hb_iast σ r2 ((x1 * (8 : Int32)) + x3) (-1 : Int32)).bind fun r3 =>
      f_X4_emptySlotsFrom_b2 n x0 x1 (x3 + (1 : Int32)) r3
def f_X4_emptySlotsFrom (x0 : Nat) (x1 : Int32) (x2 : Int32) (σ : hb_M) : Option hb_M :=
  f_X4_emptySlotsFrom_b2 hb_FU x0 x1 x2 σ
def f_X4_addObject (x0 : Nat) (x1 : Int32) (x2 : Int32) (x3 : Int32) (σ : hb_M) : Option (Int32 × hb_M) :=
  (hb_on σ x0 4 (f_X4_lowestFree x0 σ)).bind fun r1 =>
  if r1.1 = (-1 : Int32) then
    some ((-1 : Int32), r1.2)
  else
    (hb_getR r1.2 x0 4 4).bind fun r3 =>
    (hb_iast r1.2 r3 r1.1 x1).bind fun r4 =>
    (hb_getR r4 x0 4 5).bind fun r5 =>
    (hb_getI r4 x0 4 11).bind fun r6 =>
    (hb_iast r4 r5 r1.1 r6).bind fun r7 =>
    (hb_getI r7 x0 4 11).bind fun r8 =>
    (hb_putI r7 x0 4 11 (r8 + (1 : Int32))).bind fun r9 =>
    (hb_getR r9 x0 4 6).bind fun r10 =>
    (hb_iast r9 r10 r1.1 x3).bind fun r11 =>
    (hb_getR r11 x0 4 7).bind fun r12 =>
    (hb_iast r11 r12 r1.1 x2).bind fun r13 =>
    (hb_getR r13 x0 4 8).bind fun r14 =>
    (hb_iast r13 r14 r1.1 (0 : Int32)).bind fun r15 =>
    (hb_getR r15 x0 4 9).bind fun r16 =>
    (hb_iast r15 r16 r1.1 (0 : Int32)).bind fun r17 =>
    (hb_on r17 x0 4 (f_X4_emptySlotsFrom x0 r1.1 (0 : Int32) r17)).bind fun r18 =>
    (hb_getI r18 x0 4 12).bind fun r19 =>
    (hb_putI r18 x0 4 12 (r19 + (1 : Int32))).bind fun r20 =>
    some (r1.1, r20)
def f_X4_addInstance (x0 : Nat) (x1 : Int32) (σ : hb_M) : Option (Int32 × hb_M) :=
  (hb_on σ x0 4 (f_X4_hasClass x0 x1 σ)).bind fun r1 =>
  if r1.1 = 0 then
    some ((-1 : Int32), r1.2)
  else
    (hb_getR r1.2 x0 4 2).bind fun r3 =>
    (hb_iald r1.2 r3 x1).bind fun r4 =>
    (hb_on r1.2 x0 4 (f_X4_sizeOfInstance x0 x1 r1.2)).bind fun r5 =>
    (hb_on r5.2 x0 4 (f_X4_addObject x0 x1 r4 r5.1 r5.2)).bind fun r6 =>
    some (r6.1, r6.2)
def f_X4_sizeOfArray (x0 : Int32) (σ : hb_M) : Option (Int32 × hb_M) :=
  (f_X4_roundedUp ((16 : Int32) + ((4 : Int32) * x0)) σ).bind fun r1 =>
  some (r1.1, r1.2)
def f_X4_addArray (x0 : Nat) (x1 : Int32) (σ : hb_M) : Option (Int32 × hb_M) :=
  (f_X4_sizeOfArray x1 σ).bind fun r1 =>
  (hb_on r1.2 x0 4 (f_X4_addObject x0 (10 : Int32) x1 r1.1 r1.2)).bind fun r2 =>
  some (r2.1, r2.2)
def f_X4_addHolder (x0 : Nat) (σ : hb_M) : Option (Int32 × hb_M) :=
  (hb_on σ x0 4 (f_X4_addObject x0 (11 : Int32) (1 : Int32) (24 : Int32) σ)).bind fun r1 =>
  some (r1.1, r1.2)
def f_X4_targetOf (x0 : Nat) (x1 : Int32) (x2 : Int32) (σ : hb_M) : Option (Int32 × hb_M) :=
  (hb_on σ x0 4 (f_X4_hasSlot x0 x1 x2 σ)).bind fun r1 =>
  if r1.1 = 0 then
    some ((-1 : Int32), r1.2)
  else
    (hb_getR r1.2 x0 4 10).bind fun r3 =>
    (hb_iald r1.2 r3 ((x1 * (8 : Int32)) + x2)).bind fun r4 =>
    some (r4, r1.2)
def f_X4_putTarget (x0 : Nat) (x1 : Int32) (x2 : Int32) (x3 : Int32) (σ : hb_M) : Option (Int32 × hb_M) :=
  (hb_on σ x0 4 (f_X4_hasSlot x0 x1 x2 σ)).bind fun r1 =>
  if r1.1 = 0 then
    some ((-1 : Int32), r1.2)
  else
    (hb_getR r1.2 x0 4 10).bind fun r3 =>
    (hb_iald r1.2 r3 ((x1 * (8 : Int32)) + x2)).bind fun r4 =>
    (hb_getR r1.2 x0 4 10).bind fun r5 =>
    (hb_iast r1.2 r5 ((x1 * (8 : Int32)) + x2) x3).bind fun r6 =>
    (hb_getI r6 x0 4 12).bind fun r7 =>
    (hb_putI r6 x0 4 12 (r7 + (1 : Int32))).bind fun r8 =>
    some (r4, r8)
def f_X4_putLength (x0 : Nat) (x1 : Int32) (x2 : Int32) (σ : hb_M) : Option (Int32 × hb_M) :=
  (hb_getR σ x0 4 7).bind fun r1 =>
  (hb_iald σ r1 x1).bind fun r2 =>
  (hb_getR σ x0 4 6).bind fun r3 =>
  (f_X4_sizeOfArray x2 σ).bind fun r4 =>
  (hb_iast r4.2 r3 x1 r4.1).bind fun r5 =>
  (hb_getR r5 x0 4 7).bind fun r6 =>
  (hb_iast r5 r6 x1 x2).bind fun r7 =>
  (hb_on r7 x0 4 (f_X4_emptySlotsFrom x0 x1 x2 r7)).bind fun r8 =>
  (hb_getI r8 x0 4 12).bind fun r9 =>
  (hb_putI r8 x0 4 12 (r9 + (1 : Int32))).bind fun r10 =>
  some (r2, r10)
def f_X4_putRoots (x0 : Nat) (x1 : Int32) (x2 : Int32) (σ : hb_M) : Option (Int32 × hb_M) :=
  (hb_getR σ x0 4 9).bind fun r1 =>
  (hb_iast σ r1 x1 x2).bind fun r2 =>
  (hb_getI r2 x0 4 12).bind fun r3 =>
  (hb_putI r2 x0 4 12 (r3 + (1 : Int32))).bind fun r4 =>
  some (x2, r4)
def f_X8_contains (x0 : Int64) (x2 : Int32) (σ : hb_M) : Option (Int32 × hb_M) :=
  if x2 < 0 then
    some ((0 : Int32), σ)
  else
    if (40 : Int32) ≤ x2 then
      some ((0 : Int32), σ)
    else
      if (lg_cmp ((x0.toUInt64 >>> (x2.toInt64.toUInt64 &&& Int64.toUInt64 63)).toInt64 &&& (1 : Int64)) (1 : Int64)) = 0 then
        some ((1 : Int32), σ)
      else
        some ((0 : Int32), σ)
def f_X4_sizeOfAll_b33 (k5 : Nat → Int64 → Int32 → Int32 → hb_M → Option (Int32 × hb_M)) (x0 : Nat) (x1 : Int64) (x4 : Int32) (s0 : Int32) (s1 : Int32) (σ : hb_M) : Option (Int32 × hb_M) :=
  k5 x0 x1 (s0 + s1) (x4 + (1 : Int32)) σ
def f_X4_sizeOfAll_b5 : Nat → Nat → Int64 → Int32 → Int32 → hb_M → Option (Int32 × hb_M)
  | 0, _, _, _, _, _ => none
  | n + 1, x0, x1, x3, x4, σ =>
    if (40 : Int32) ≤ x4 then
      some (x3, σ)
    else
      (f_X8_contains x1 x4 σ).bind fun r2 =>
      if r2.1 = 0 then
        f_X4_sizeOfAll_b33 (f_X4_sizeOfAll_b5 n) x0 x1 x4 x3 (0 : Int32) r2.2
      else
        (hb_getR r2.2 x0 4 6).bind fun r4 =>
        (hb_iald r2.2 r4 x4).bind fun r5 =>
        f_X4_sizeOfAll_b33 (f_X4_sizeOfAll_b5 n) x0 x1 x4 x3 r5 r2.2
def f_X4_sizeOfAll (x0 : Nat) (x1 : Int64) (σ : hb_M) : Option (Int32 × hb_M) :=
  f_X4_sizeOfAll_b5 hb_FU x0 x1 (0 : Int32) (0 : Int32) σ
def f_X4_grow (x0 : Nat) (x1 : Int32) (σ : hb_M) : Option hb_M :=
  (hb_getR σ x0 4 8).bind fun r1 =>
  (hb_getR σ x0 4 8).bind fun r2 =>
  (hb_iald σ r2 x1).bind fun r3 =>
  (hb_iast σ r1 x1 (if (99 : Int32) < (r3 + (1 : Int32)) then (99 : Int32) else (r3 + (1 : Int32)))).bind fun r4 =>
  (hb_getR r4 x0 4 4).bind fun r5 =>
  (hb_iald r4 r5 x1).bind fun r6 =>
  if r6 = (11 : Int32) then
    (hb_getR r4 x0 4 10).bind fun r8 =>
    (hb_iald r4 r8 (x1 * (8 : Int32))).bind fun r9 =>
    (hb_on r4 x0 4 (f_X4_hasObject x0 r9 r4)).bind fun r10 =>
    if r10.1 = 0 then
      (hb_on r10.2 x0 4 (f_X4_emptySlotsFrom x0 x1 (0 : Int32) r10.2)).bind fun r12 =>
      some r12
    else
      some r10.2
  else
    some r4
def f_X4_removeAllBut_b75 (k51 : Nat → Int32 → Int32 → hb_M → Option (Int32 × hb_M)) (x0 : Nat) (x3 : Int32) (x4 : Int32) (σ : hb_M) : Option (Int32 × hb_M) :=
  k51 x0 x3 (x4 + (1 : Int32)) σ
def f_X4_removeAllBut_b51 : Nat → Nat → Int32 → Int32 → hb_M → Option (Int32 × hb_M)
  | 0, _, _, _, _ => none
  | n + 1, x0, x3, x4, σ =>
    if (40 : Int32) ≤ x4 then
      (hb_getI σ x0 4 12).bind fun r2 =>
      (hb_putI σ x0 4 12 (r2 + (1 : Int32))).bind fun r3 =>
      some (x3, r3)
    else
      (hb_getR σ x0 4 4).bind fun r4 =>
      (hb_iald σ r4 x4).bind fun r5 =>
      if r5 = (-1 : Int32) then
        f_X4_removeAllBut_b75 (f_X4_removeAllBut_b51 n) x0 x3 x4 σ
      else
        (hb_on σ x0 4 (f_X4_grow x0 x4 σ)).bind fun r7 =>
        f_X4_removeAllBut_b75 (f_X4_removeAllBut_b51 n) x0 x3 x4 r7
def f_X4_removeAllBut_b42 (k18 : Nat → Int64 → Int32 → Int32 → hb_M → Option (Int32 × hb_M)) (x0 : Nat) (x1 : Int64) (x3 : Int32) (x4 : Int32) (σ : hb_M) : Option (Int32 × hb_M) :=
  k18 x0 x1 x3 (x4 + (1 : Int32)) σ
def f_X4_removeAllBut_b18 : Nat → Nat → Int64 → Int32 → Int32 → hb_M → Option (Int32 × hb_M)
  | 0, _, _, _, _, _ => none
  | n + 1, x0, x1, x3, x4, σ =>
    if (40 : Int32) ≤ x4 then
      f_X4_removeAllBut_b51 hb_FU x0 x3 (0 : Int32) σ
    else
      (f_X8_contains x1 x4 σ).bind fun r2 =>
      if r2.1 = 0 then
        (hb_getR r2.2 x0 4 4).bind fun r4 =>
        (hb_iast r2.2 r4 x4 (-1 : Int32)).bind fun r5 =>
        f_X4_removeAllBut_b42 (f_X4_removeAllBut_b18 n) x0 x1 x3 x4 r5
      else
        f_X4_removeAllBut_b42 (f_X4_removeAllBut_b18 n) x0 x1 x3 x4 r2.2
def f_X4_removeAllBut (x0 : Nat) (x1 : Int64) (σ : hb_M) : Option (Int32 × hb_M) :=
  (hb_on σ x0 4 (f_X4_allObjects x0 σ)).bind fun r1 =>
  (hb_on r1.2 x0 4 (f_X4_sizeOfAll x0 (r1.1 &&& (x1 ^^^ (-1 : Int64))) r1.2)).bind fun r2 =>
  f_X4_removeAllBut_b18 hb_FU x0 x1 r2.1 (0 : Int32) r2.2
def f_X4_countBelow_b28 (k4 : Nat → Int32 → Int32 → Int32 → hb_M → Option (Int32 × hb_M)) (x0 : Nat) (x1 : Int32) (x3 : Int32) (s0 : Int32) (s1 : Int32) (σ : hb_M) : Option (Int32 × hb_M) :=
  k4 x0 x1 (s0 + s1) (x3 + (1 : Int32)) σ
def f_X4_countBelow_b4 : Nat → Nat → Int32 → Int32 → Int32 → hb_M → Option (Int32 × hb_M)
  | 0, _, _, _, _, _ => none
  | n + 1, x0, x1, x2, x3, σ =>
    (hb_getI σ x0 4 0).bind fun r1 =>
    if r1 ≤ x3 then
      some (x2, σ)
    else
      (hb_getR σ x0 4 1).bind fun r3 =>
      (hb_iald σ r3 x3).bind fun r4 =>
      if r4 = x1 then
        f_X4_countBelow_b28 (f_X4_countBelow_b4 n) x0 x1 x3 x2 (1 : Int32) σ
      else
        f_X4_countBelow_b28 (f_X4_countBelow_b4 n) x0 x1 x3 x2 (0 : Int32) σ
def f_X4_countBelow (x0 : Nat) (x1 : Int32) (σ : hb_M) : Option (Int32 × hb_M) :=
  f_X4_countBelow_b4 hb_FU x0 x1 (0 : Int32) (0 : Int32) σ
def f_X4_classFact (x0 : Nat) (x1 : Int32) (x2 : Int32) (σ : hb_M) : Option (Int32 × hb_M) :=
  if x2 = (0 : Int32) then
    (hb_getR σ x0 4 1).bind fun r2 =>
    (hb_iald σ r2 x1).bind fun r3 =>
    some (r3, σ)
  else if x2 = (1 : Int32) then
    (hb_getR σ x0 4 2).bind fun r5 =>
    (hb_iald σ r5 x1).bind fun r6 =>
    some (r6, σ)
  else if x2 = (2 : Int32) then
    (hb_on σ x0 4 (f_X4_sizeOfInstance x0 x1 σ)).bind fun r8 =>
    some (r8.1, r8.2)
  else 
    (hb_on σ x0 4 (f_X4_countBelow x0 x1 σ)).bind fun r9 =>
    some (r9.1, r9.2)
def f_X4_isBelow_b5 : Nat → Nat → Int32 → Int32 → Int32 → hb_M → Option (Int32 × hb_M)
  | 0, _, _, _, _, _ => none
  | n + 1, x0, x2, x3, x4, σ =>
    if (10 : Int32) ≤ x4 then
      some ((0 : Int32), σ)
    else
      if x3 < 0 then
        some ((0 : Int32), σ)
      else
        (hb_getI σ x0 4 0).bind fun r3 =>
        if r3 ≤ x3 then
          some ((0 : Int32), σ)
        else
          if x3 = x2 then
            some ((1 : Int32), σ)
          else
            (hb_getR σ x0 4 1).bind fun r6 =>
            (hb_iald σ r6 x3).bind fun r7 =>
            f_X4_isBelow_b5 n x0 x2 r7 (x4 + (1 : Int32)) σ
def f_X4_isBelow (x0 : Nat) (x1 : Int32) (x2 : Int32) (σ : hb_M) : Option (Int32 × hb_M) :=
  f_X4_isBelow_b5 hb_FU x0 x2 x1 (0 : Int32) σ
def f_X4_objectFact (x0 : Nat) (x1 : Int32) (x2 : Int32) (σ : hb_M) : Option (Int32 × hb_M) :=
  if x2 = (0 : Int32) then
    (hb_getR σ x0 4 4).bind fun r2 =>
    (hb_iald σ r2 x1).bind fun r3 =>
    some (r3, σ)
  else if x2 = (1 : Int32) then
    (hb_getR σ x0 4 5).bind fun r5 =>
    (hb_iald σ r5 x1).bind fun r6 =>
    some (r6, σ)
  else if x2 = (2 : Int32) then
    (hb_getR σ x0 4 6).bind fun r8 =>
    (hb_iald σ r8 x1).bind fun r9 =>
    some (r9, σ)
  else if x2 = (3 : Int32) then
    (hb_getR σ x0 4 8).bind fun r11 =>
    (hb_iald σ r11 x1).bind fun r12 =>
    some (r12, σ)
  else if x2 = (4 : Int32) then
    (hb_getR σ x0 4 7).bind fun r14 =>
    (hb_iald σ r14 x1).bind fun r15 =>
    some (r15, σ)
  else 
    (hb_getR σ x0 4 9).bind fun r16 =>
    (hb_iald σ r16 x1).bind fun r17 =>
    some (r17, σ)
def f_X4_writeReferences_b79 (k2 : Nat → Nat → Int32 → hb_M → Option hb_M) (k43 : Nat → Nat → Int32 → Int32 → Int32 → hb_M → Option hb_M) (x0 : Nat) (x1 : Nat) (x2 : Int32) (x3 : Int32) (x4 : Int32) (s0 : Nat) (s1 : Int32) (s2 : Int32) (σ : hb_M) : Option hb_M :=
  (hb_iast σ s0 s1 s2).bind fun r1 =>
  k43 x0 x1 x2 x3 (x4 + (1 : Int32)) r1
def f_X4_writeReferences_b43 (k2 : Nat → Nat → Int32 → hb_M → Option hb_M) : Nat → Nat → Nat → Int32 → Int32 → Int32 → hb_M → Option hb_M
  | 0, _, _, _, _, _, _ => none
  | n + 1, x0, x1, x2, x3, x4, σ =>
    if (8 : Int32) ≤ x4 then
      k2 x0 x1 (x2 + (1 : Int32)) σ
    else
      if x3 ≤ x4 then
        f_X4_writeReferences_b79 k2 (f_X4_writeReferences_b43 k2 n) x0 x1 x2 x3 x4 x1 ((x2 * (8 : Int32)) + x4) (-1 : Int32) σ
      else
        (hb_getR σ x0 4 10).bind fun r3 =>
        (hb_iald σ r3 ((x2 * (8 : Int32)) + x4)).bind fun r4 =>
        f_X4_writeReferences_b79 k2 (f_X4_writeReferences_b43 k2 n) x0 x1 x2 x3 x4 x1 ((x2 * (8 : Int32)) + x4) r4 σ
def f_X4_writeReferences_b39 (k2 : Nat → Nat → Int32 → hb_M → Option hb_M) (x0 : Nat) (x1 : Nat) (x2 : Int32) (s0 : Int32) (σ : hb_M) : Option hb_M :=
  f_X4_writeReferences_b43 k2 hb_FU x0 x1 x2 s0 (0 : Int32) σ
def f_X4_writeReferences_b29 (k2 : Nat → Nat → Int32 → hb_M → Option hb_M) (x0 : Nat) (x1 : Nat) (x2 : Int32) (σ : hb_M) : Option hb_M :=
  f_X4_writeReferences_b39 k2 x0 x1 x2 (0 : Int32) σ
def f_X4_writeReferences_b2 : Nat → Nat → Nat → Int32 → hb_M → Option hb_M
  | 0, _, _, _, _ => none
  | n + 1, x0, x1, x2, σ =>
    if (40 : Int32) ≤ x2 then
      some σ
    else
      (hb_getR σ x0 4 4).bind fun r2 =>
      (hb_iald σ r2 x2).bind fun r3 =>
      if r3 = (-1 : Int32) then
        f_X4_writeReferences_b29 (f_X4_writeReferences_b2 n) x0 x1 x2 σ
      else
        (hb_getR σ x0 4 4).bind fun r5 =>
        (hb_iald σ r5 x2).bind fun r6 =>
        if r6 = (11 : Int32) then
          f_X4_writeReferences_b29 (f_X4_writeReferences_b2 n) x0 x1 x2 σ
        else
          (hb_getR σ x0 4 7).bind fun r8 =>
          (hb_iald σ r8 x2).bind fun r9 =>
          f_X4_writeReferences_b39 (f_X4_writeReferences_b2 n) x0 x1 x2 r9 σ
def f_X4_writeReferences (x0 : Nat) (x1 : Nat) (σ : hb_M) : Option hb_M :=
  f_X4_writeReferences_b2 hb_FU x0 x1 (0 : Int32) σ
def f_X4_allRoots_b38 (k4 : Nat → Int64 → Int32 → hb_M → Option (Int64 × hb_M)) (x0 : Nat) (x3 : Int32) (s0 : Int64) (s1 : Int64) (σ : hb_M) : Option (Int64 × hb_M) :=
  k4 x0 (s0 ||| s1) (x3 + (1 : Int32)) σ
def f_X4_allRoots_b37 (k4 : Nat → Int64 → Int32 → hb_M → Option (Int64 × hb_M)) (x0 : Nat) (x3 : Int32) (s0 : Int64) (σ : hb_M) : Option (Int64 × hb_M) :=
  f_X4_allRoots_b38 k4 x0 x3 s0 (0 : Int64) σ
def f_X4_allRoots_b4 : Nat → Nat → Int64 → Int32 → hb_M → Option (Int64 × hb_M)
  | 0, _, _, _, _ => none
  | n + 1, x0, x1, x3, σ =>
    if (40 : Int32) ≤ x3 then
      some (x1, σ)
    else
      (hb_getR σ x0 4 4).bind fun r2 =>
      (hb_iald σ r2 x3).bind fun r3 =>
      if r3 = (-1 : Int32) then
        f_X4_allRoots_b37 (f_X4_allRoots_b4 n) x0 x3 x1 σ
      else
        (hb_getR σ x0 4 9).bind fun r5 =>
        (hb_iald σ r5 x3).bind fun r6 =>
        if r6 = 0 then
          f_X4_allRoots_b37 (f_X4_allRoots_b4 n) x0 x3 x1 σ
        else
          (f_X8_member x3 σ).bind fun r8 =>
          f_X4_allRoots_b38 (f_X4_allRoots_b4 n) x0 x3 x1 r8.1 r8.2
def f_X4_allRoots (x0 : Nat) (σ : hb_M) : Option (Int64 × hb_M) :=
  f_X4_allRoots_b4 hb_FU x0 (0 : Int64) (0 : Int32) σ
def f_X4_membersOf_b64 (k5 : Nat → Int32 → Int32 → Int64 → Int32 → hb_M → Option (Int64 × hb_M)) (x0 : Nat) (x1 : Int32) (x2 : Int32) (x5 : Int32) (s0 : Int64) (s1 : Int64) (σ : hb_M) : Option (Int64 × hb_M) :=
  k5 x0 x1 x2 (s0 ||| s1) (x5 + (1 : Int32)) σ
def f_X4_membersOf_b47 (k5 : Nat → Int32 → Int32 → Int64 → Int32 → hb_M → Option (Int64 × hb_M)) (x0 : Nat) (x1 : Int32) (x2 : Int32) (x3 : Int64) (x5 : Int32) (s0 : Int32) (σ : hb_M) : Option (Int64 × hb_M) :=
  if s0 = 0 then
    f_X4_membersOf_b64 k5 x0 x1 x2 x5 x3 (0 : Int64) σ
  else
    (f_X8_member x5 σ).bind fun r2 =>
    f_X4_membersOf_b64 k5 x0 x1 x2 x5 x3 r2.1 r2.2
def f_X4_membersOf_b42 (k5 : Nat → Int32 → Int32 → Int64 → Int32 → hb_M → Option (Int64 × hb_M)) (x0 : Nat) (x1 : Int32) (x2 : Int32) (x3 : Int64) (x5 : Int32) (σ : hb_M) : Option (Int64 × hb_M) :=
  f_X4_membersOf_b47 k5 x0 x1 x2 x3 x5 (1 : Int32) σ
def f_X4_membersOf_b46 (k5 : Nat → Int32 → Int32 → Int64 → Int32 → hb_M → Option (Int64 × hb_M)) (x0 : Nat) (x1 : Int32) (x2 : Int32) (x3 : Int64) (x5 : Int32) (σ : hb_M) : Option (Int64 × hb_M) :=
  f_X4_membersOf_b47 k5 x0 x1 x2 x3 x5 (0 : Int32) σ
def f_X4_membersOf_b5 : Nat → Nat → Int32 → Int32 → Int64 → Int32 → hb_M → Option (Int64 × hb_M)
  | 0, _, _, _, _, _, _ => none
  | n + 1, x0, x1, x2, x3, x5, σ =>
    if (40 : Int32) ≤ x5 then
      some (x3, σ)
    else
      (hb_getR σ x0 4 4).bind fun r2 =>
      (hb_iald σ r2 x5).bind fun r3 =>
      if r3 = x1 then
        f_X4_membersOf_b42 (f_X4_membersOf_b5 n) x0 x1 x2 x3 x5 σ
      else
        if x2 = 0 then
          f_X4_membersOf_b46 (f_X4_membersOf_b5 n) x0 x1 x2 x3 x5 σ
        else
          (hb_getR σ x0 4 4).bind fun r6 =>
          (hb_iald σ r6 x5).bind fun r7 =>
          (hb_on σ x0 4 (f_X4_isBelow x0 r7 x1 σ)).bind fun r8 =>
          if r8.1 = 0 then
            f_X4_membersOf_b46 (f_X4_membersOf_b5 n) x0 x1 x2 x3 x5 r8.2
          else
            f_X4_membersOf_b42 (f_X4_membersOf_b5 n) x0 x1 x2 x3 x5 r8.2
def f_X4_membersOf (x0 : Nat) (x1 : Int32) (x2 : Int32) (σ : hb_M) : Option (Int64 × hb_M) :=
  f_X4_membersOf_b5 hb_FU x0 x1 x2 (0 : Int64) (0 : Int32) σ
def f_X4_objectWithSerial_b30 (k2 : Nat → Int32 → Int32 → hb_M → Option (Int32 × hb_M)) (x0 : Nat) (x1 : Int32) (x2 : Int32) (σ : hb_M) : Option (Int32 × hb_M) :=
  k2 x0 x1 (x2 + (1 : Int32)) σ
def f_X4_objectWithSerial_b2 : Nat → Nat → Int32 → Int32 → hb_M → Option (Int32 × hb_M)
  | 0, _, _, _, _ => none
  | n + 1, x0, x1, x2, σ =>
    if (40 : Int32) ≤ x2 then
      some ((-1 : Int32), σ)
    else
      (hb_getR σ x0 4 4).bind fun r2 =>
      (hb_iald σ r2 x2).bind fun r3 =>
      if r3 = (-1 : Int32) then
        f_X4_objectWithSerial_b30 (f_X4_objectWithSerial_b2 n) x0 x1 x2 σ
      else
        (hb_getR σ x0 4 5).bind fun r5 =>
        (hb_iald σ r5 x2).bind fun r6 =>
        if r6 = x1 then
          some (x2, σ)
        else
          f_X4_objectWithSerial_b30 (f_X4_objectWithSerial_b2 n) x0 x1 x2 σ
def f_X4_objectWithSerial (x0 : Nat) (x1 : Int32) (σ : hb_M) : Option (Int32 × hb_M) :=
  f_X4_objectWithSerial_b2 hb_FU x0 x1 (0 : Int32) σ
def f_X4_countNotIn_b52 (k4 : Nat → Nat → Int32 → Int32 → hb_M → Option (Int32 × hb_M)) (x0 : Nat) (x1 : Nat) (x3 : Int32) (s0 : Int32) (s1 : Int32) (σ : hb_M) : Option (Int32 × hb_M) :=
  k4 x0 x1 (s0 + s1) (x3 + (1 : Int32)) σ
def f_X4_countNotIn_b39 (k4 : Nat → Nat → Int32 → Int32 → hb_M → Option (Int32 × hb_M)) (x0 : Nat) (x1 : Nat) (x2 : Int32) (x3 : Int32) (s0 : Int32) (σ : hb_M) : Option (Int32 × hb_M) :=
  if s0 = 0 then
    f_X4_countNotIn_b52 k4 x0 x1 x3 x2 (0 : Int32) σ
  else
    f_X4_countNotIn_b52 k4 x0 x1 x3 x2 (1 : Int32) σ
def f_X4_countNotIn_b38 (k4 : Nat → Nat → Int32 → Int32 → hb_M → Option (Int32 × hb_M)) (x0 : Nat) (x1 : Nat) (x2 : Int32) (x3 : Int32) (σ : hb_M) : Option (Int32 × hb_M) :=
  f_X4_countNotIn_b39 k4 x0 x1 x2 x3 (0 : Int32) σ
def f_X4_countNotIn_b4 : Nat → Nat → Nat → Int32 → Int32 → hb_M → Option (Int32 × hb_M)
  | 0, _, _, _, _, _ => none
  | n + 1, x0, x1, x2, x3, σ =>
    if (40 : Int32) ≤ x3 then
      some (x2, σ)
    else
      (hb_getR σ x0 4 4).bind fun r2 =>
      (hb_iald σ r2 x3).bind fun r3 =>
      if r3 = (-1 : Int32) then
        f_X4_countNotIn_b38 (f_X4_countNotIn_b4 n) x0 x1 x2 x3 σ
      else
        (hb_getR σ x0 4 5).bind fun r5 =>
        (hb_iald σ r5 x3).bind fun r6 =>
        (hb_on σ x1 4 (f_X4_objectWithSerial x1 r6 σ)).bind fun r7 =>
        if r7.1 = (-1 : Int32) then
          f_X4_countNotIn_b39 (f_X4_countNotIn_b4 n) x0 x1 x2 x3 (1 : Int32) r7.2
        else
          f_X4_countNotIn_b38 (f_X4_countNotIn_b4 n) x0 x1 x2 x3 r7.2
def f_X4_countNotIn (x0 : Nat) (x1 : Nat) (σ : hb_M) : Option (Int32 × hb_M) :=
  f_X4_countNotIn_b4 hb_FU x0 x1 (0 : Int32) (0 : Int32) σ
def f_X4_serialIn (x0 : Nat) (x1 : Int32) (x2 : Int32) (σ : hb_M) : Option (Int32 × hb_M) :=
  (hb_on σ x0 4 (f_X4_targetOf x0 x1 x2 σ)).bind fun r1 =>
  (hb_on r1.2 x0 4 (f_X4_hasObject x0 r1.1 r1.2)).bind fun r2 =>
  if r2.1 = 0 then
    some ((-1 : Int32), r2.2)
  else
    (hb_getR r2.2 x0 4 5).bind fun r4 =>
    (hb_iald r2.2 r4 r1.1).bind fun r5 =>
    some (r5, r2.2)
def f_X4_differs_b35 : Nat → Nat → Int32 → Nat → Int32 → Int32 → hb_M → Option (Int32 × hb_M)
  | 0, _, _, _, _, _, _ => none
  | n + 1, x0, x1, x2, x3, x4, σ =>
    if (8 : Int32) ≤ x4 then
      some ((0 : Int32), σ)
    else
      (hb_on σ x0 4 (f_X4_serialIn x0 x1 x4 σ)).bind fun r2 =>
      (hb_on r2.2 x2 4 (f_X4_serialIn x2 x3 x4 r2.2)).bind fun r3 =>
      if r2.1 = r3.1 then
        f_X4_differs_b35 n x0 x1 x2 x3 (x4 + (1 : Int32)) r3.2
      else
        some ((1 : Int32), r3.2)
def f_X4_differs (x0 : Nat) (x1 : Int32) (x2 : Nat) (x3 : Int32) (σ : hb_M) : Option (Int32 × hb_M) :=
  (hb_getR σ x0 4 9).bind fun r1 =>
  (hb_iald σ r1 x1).bind fun r2 =>
  (hb_getR σ x2 4 9).bind fun r3 =>
  (hb_iald σ r3 x3).bind fun r4 =>
  if r2 = r4 then
    (hb_getR σ x0 4 7).bind fun r6 =>
    (hb_iald σ r6 x1).bind fun r7 =>
    (hb_getR σ x2 4 7).bind fun r8 =>
    (hb_iald σ r8 x3).bind fun r9 =>
    if r7 = r9 then
      f_X4_differs_b35 hb_FU x0 x1 x2 x3 (0 : Int32) σ
    else
      some ((1 : Int32), σ)
  else
    some ((1 : Int32), σ)
def f_X4_countChangedSince_b59 (k4 : Nat → Nat → Int32 → Int32 → hb_M → Option (Int32 × hb_M)) (x0 : Nat) (x1 : Nat) (x3 : Int32) (s0 : Int32) (s1 : Int32) (σ : hb_M) : Option (Int32 × hb_M) :=
  k4 x0 x1 (s0 + s1) (x3 + (1 : Int32)) σ
def f_X4_countChangedSince_b58 (k4 : Nat → Nat → Int32 → Int32 → hb_M → Option (Int32 × hb_M)) (x0 : Nat) (x1 : Nat) (x3 : Int32) (s0 : Int32) (σ : hb_M) : Option (Int32 × hb_M) :=
  f_X4_countChangedSince_b59 k4 x0 x1 x3 s0 (0 : Int32) σ
def f_X4_countChangedSince_b34 (k4 : Nat → Nat → Int32 → Int32 → hb_M → Option (Int32 × hb_M)) (x0 : Nat) (x1 : Nat) (x2 : Int32) (x3 : Int32) (s0 : Int32) (σ : hb_M) : Option (Int32 × hb_M) :=
  if s0 = (-1 : Int32) then
    f_X4_countChangedSince_b58 k4 x0 x1 x3 x2 σ
  else
    (hb_on σ x0 4 (f_X4_differs x0 x3 x1 s0 σ)).bind fun r2 =>
    if r2.1 = 0 then
      f_X4_countChangedSince_b58 k4 x0 x1 x3 x2 r2.2
    else
      f_X4_countChangedSince_b59 k4 x0 x1 x3 x2 (1 : Int32) r2.2
def f_X4_countChangedSince_b4 : Nat → Nat → Nat → Int32 → Int32 → hb_M → Option (Int32 × hb_M)
  | 0, _, _, _, _, _ => none
  | n + 1, x0, x1, x2, x3, σ =>
    if (40 : Int32) ≤ x3 then
      some (x2, σ)
    else
      (hb_getR σ x0 4 4).bind fun r2 =>
      (hb_iald σ r2 x3).bind fun r3 =>
      if r3 = (-1 : Int32) then
        f_X4_countChangedSince_b34 (f_X4_countChangedSince_b4 n) x0 x1 x2 x3 (-1 : Int32) σ
      else
        (hb_getR σ x0 4 5).bind fun r5 =>
        (hb_iald σ r5 x3).bind fun r6 =>
        (hb_on σ x1 4 (f_X4_objectWithSerial x1 r6 σ)).bind fun r7 =>
        f_X4_countChangedSince_b34 (f_X4_countChangedSince_b4 n) x0 x1 x2 x3 r7.1 r7.2
def f_X4_countChangedSince (x0 : Nat) (x1 : Nat) (σ : hb_M) : Option (Int32 × hb_M) :=
  f_X4_countChangedSince_b4 hb_FU x0 x1 (0 : Int32) (0 : Int32) σ
