def f_X9_init (x0 : Nat) (σ : hb_M) : Option hb_M :=
  (hb_newA σ 0 (552 : Int32)).bind fun r1 =>
  (hb_putR r1.2 x0 9 0 r1.1).bind fun r2 =>
  (hb_newA r2 0 (2760 : Int32)).bind fun r3 =>
  (hb_putR r3.2 x0 9 1 r3.1).bind fun r4 =>
  (hb_newA r4 0 (552 : Int32)).bind fun r5 =>
  (hb_putR r5.2 x0 9 2 r5.1).bind fun r6 =>
  (hb_newA r6 0 (100 : Int32)).bind fun r7 =>
  (hb_putR r7.2 x0 9 5 r7.1).bind fun r8 =>
  (hb_newA r8 0 (1040 : Int32)).bind fun r9 =>
  (hb_putR r9.2 x0 9 7 r9.1).bind fun r10 =>
  (hb_newA r10 0 (2 : Int32)).bind fun r11 =>
  (hb_putR r11.2 x0 9 8 r11.1).bind fun r12 =>
  (hb_newA r12 0 (2 : Int32)).bind fun r13 =>
  (hb_putR r13.2 x0 9 9 r13.1).bind fun r14 =>
  (hb_newA r14 1 (40 : Int32)).bind fun r15 =>
  (hb_putR r15.2 x0 9 12 r15.1).bind fun r16 =>
  (hb_newA r16 0 (40 : Int32)).bind fun r17 =>
  (hb_putR r17.2 x0 9 13 r17.1).bind fun r18 =>
  (hb_newA r18 1 (41 : Int32)).bind fun r19 =>
  (hb_putR r19.2 x0 9 14 r19.1).bind fun r20 =>
  (hb_newA r20 1 (40 : Int32)).bind fun r21 =>
  (hb_putR r21.2 x0 9 15 r21.1).bind fun r22 =>
  (hb_newA r22 0 (100 : Int32)).bind fun r23 =>
  (hb_putR r23.2 x0 9 16 r23.1).bind fun r24 =>
  (hb_newA r24 0 (100 : Int32)).bind fun r25 =>
  (hb_putR r25.2 x0 9 17 r25.1).bind fun r26 =>
  (hb_newA r26 0 (100 : Int32)).bind fun r27 =>
  (hb_putR r27.2 x0 9 18 r27.1).bind fun r28 =>
  (hb_newA r28 0 (100 : Int32)).bind fun r29 =>
  (hb_putR r29.2 x0 9 20 r29.1).bind fun r30 =>
  (hb_newA r30 2 (100 : Int32)).bind fun r31 =>
  (hb_putR r31.2 x0 9 23 r31.1).bind fun r32 =>
  (hb_newA r32 0 (400 : Int32)).bind fun r33 =>
  (hb_putR r33.2 x0 9 25 r33.1).bind fun r34 =>
  (hb_getR r34 x0 9 0).bind fun r35 =>
  (hb_iast r34 r35 (0 : Int32) (1 : Int32)).bind fun r36 =>
  (hb_getR r36 x0 9 0).bind fun r37 =>
  (hb_iast r36 r37 (1 : Int32) (-1 : Int32)).bind fun r38 =>
  (hb_getR r38 x0 9 0).bind fun r39 =>
  (hb_iast r38 r39 (31 : Int32) (1 : Int32)).bind fun r40 =>
  some r40
def f_X9_thrown (x0 : Nat) (σ : hb_M) : Option (Int32 × hb_M) :=
  (hb_getI σ x0 9 4).bind fun r1 =>
  some (r1, σ)
def f_X9_refused (x0 : Nat) (x1 : Int32) (σ : hb_M) : Option (Int32 × hb_M) :=
  (hb_putI σ x0 9 4 x1).bind fun r1 =>
  if x1 ≤ 0 then
    some ((0 : Int32), r1)
  else
    some ((1 : Int32), r1)
def f_X9_within (x0 : Int32) (x1 : Int32) (x2 : Int32) (σ : hb_M) : Option (Int32 × hb_M) :=
  if x0 < x1 then
    some ((0 : Int32), σ)
  else
    if x2 < x0 then
      some ((0 : Int32), σ)
    else
      some ((1 : Int32), σ)
def f_X9_keeps_b51 : Nat → Nat → Nat → Int32 → hb_M → Option hb_M
  | 0, _, _, _, _ => none
  | n + 1, x0, x1, x2, σ =>
    if (552 : Int32) ≤ x2 then
      (hb_getI σ x0 9 3).bind fun r2 =>
      (hb_putI σ x0 9 3 (r2 + (1 : Int32))).bind fun r3 =>
      some r3
    else
      (hb_getR σ x0 9 1).bind fun r4 =>
      (hb_getI σ x0 9 3).bind fun r5 =>
      (hb_iald σ x1 x2).bind fun r6 =>
      (hb_iast σ r4 (((552 : Int32) * r5) + x2) r6).bind fun r7 =>
      f_X9_keeps_b51 n x0 x1 (x2 + (1 : Int32)) r7
def f_X9_keeps_b49 (x0 : Nat) (x1 : Nat) (σ : hb_M) : Option hb_M :=
  f_X9_keeps_b51 hb_FU x0 x1 (0 : Int32) σ
def f_X9_keeps_b10 : Nat → Nat → Nat → Int32 → hb_M → Option hb_M
  | 0, _, _, _, _ => none
  | n + 1, x0, x1, x2, σ =>
    if (2208 : Int32) ≤ x2 then
      (hb_getI σ x0 9 3).bind fun r2 =>
      (hb_putI σ x0 9 3 (r2 - (1 : Int32))).bind fun r3 =>
      f_X9_keeps_b49 x0 x1 r3
    else
      (hb_getR σ x0 9 1).bind fun r4 =>
      (hb_getR σ x0 9 1).bind fun r5 =>
      (hb_iald σ r5 (x2 + (552 : Int32))).bind fun r6 =>
      (hb_iast σ r4 x2 r6).bind fun r7 =>
      f_X9_keeps_b10 n x0 x1 (x2 + (1 : Int32)) r7
def f_X9_keeps (x0 : Nat) (x1 : Nat) (σ : hb_M) : Option hb_M :=
  (hb_getI σ x0 9 3).bind fun r1 =>
  if r1 = (5 : Int32) then
    f_X9_keeps_b10 hb_FU x0 x1 (0 : Int32) σ
  else
    f_X9_keeps_b49 x0 x1 σ
def f_X9_saves (x0 : Nat) (σ : hb_M) : Option hb_M :=
  (hb_getR σ x0 9 0).bind fun r1 =>
  (hb_on σ x0 9 (f_X9_keeps x0 r1 σ)).bind fun r2 =>
  some r2
def f_X9_undo_b33 : Nat → Nat → Int32 → hb_M → Option (Int32 × hb_M)
  | 0, _, _, _ => none
  | n + 1, x0, x1, σ =>
    if (552 : Int32) ≤ x1 then
      (hb_getI σ x0 9 3).bind fun r2 =>
      some (r2, σ)
    else
      (hb_getR σ x0 9 0).bind fun r3 =>
      (hb_getR σ x0 9 1).bind fun r4 =>
      (hb_getI σ x0 9 3).bind fun r5 =>
      (hb_iald σ r4 (((552 : Int32) * r5) + x1)).bind fun r6 =>
      (hb_iast σ r3 x1 r6).bind fun r7 =>
      f_X9_undo_b33 n x0 (x1 + (1 : Int32)) r7
def f_X9_undo_b13 (x0 : Nat) (s0 : Nat) (s1 : Int32) (σ : hb_M) : Option (Int32 × hb_M) :=
  (hb_on σ s0 9 (f_X9_refused s0 s1 σ)).bind fun r1 =>
  if r1.1 = 0 then
    (hb_getI r1.2 x0 9 3).bind fun r3 =>
    (hb_putI r1.2 x0 9 3 (r3 - (1 : Int32))).bind fun r4 =>
    f_X9_undo_b33 hb_FU x0 (0 : Int32) r4
  else
    some ((0 : Int32), r1.2)
def f_X9_undo (x0 : Nat) (σ : hb_M) : Option (Int32 × hb_M) :=
  (hb_getI σ x0 9 3).bind fun r1 =>
  if r1 = 0 then
    f_X9_undo_b13 x0 x0 (1 : Int32) σ
  else
    f_X9_undo_b13 x0 x0 (0 : Int32) σ
def f_X9_isClass (x0 : Nat) (x1 : Int32) (σ : hb_M) : Option (Int32 × hb_M) :=
  (hb_getR σ x0 9 0).bind fun r1 =>
  (hb_iald σ r1 (0 : Int32)).bind fun r2 =>
  (f_X9_within x1 (0 : Int32) (r2 - (1 : Int32)) σ).bind fun r3 =>
  hb_zr r3.1 r3.2
def f_X9_fieldsOf_b4 : Nat → Nat → Int32 → Int32 → hb_M → Option (Int32 × hb_M)
  | 0, _, _, _, _ => none
  | n + 1, x0, x2, x3, σ =>
    if x3 = (-1 : Int32) then
      some (x2, σ)
    else
      (hb_getR σ x0 9 0).bind fun r2 =>
      (hb_iald σ r2 ((11 : Int32) + x3)).bind fun r3 =>
      (hb_getR σ x0 9 0).bind fun r4 =>
      (hb_iald σ r4 ((1 : Int32) + x3)).bind fun r5 =>
      f_X9_fieldsOf_b4 n x0 (x2 + r3) r5 σ
def f_X9_fieldsOf (x0 : Nat) (x1 : Int32) (σ : hb_M) : Option (Int32 × hb_M) :=
  f_X9_fieldsOf_b4 hb_FU x0 (0 : Int32) x1 σ
def f_X9_sizeOfClass_b13 : Nat → Nat → Int32 → Int32 → hb_M → Option (Int32 × hb_M)
  | 0, _, _, _, _ => none
  | n + 1, x0, x2, x3, σ =>
    if x3 = (-1 : Int32) then
      some ((((x2 + (7 : Int32)) / (8 : Int32)) * (8 : Int32)), σ)
    else
      (hb_getR σ x0 9 0).bind fun r2 =>
      (hb_iald σ r2 ((21 : Int32) + x3)).bind fun r3 =>
      (hb_getR σ x0 9 0).bind fun r4 =>
      (hb_iald σ r4 ((1 : Int32) + x3)).bind fun r5 =>
      f_X9_sizeOfClass_b13 n x0 (x2 + r3) r5 σ
def f_X9_sizeOfClass (x0 : Nat) (x1 : Int32) (σ : hb_M) : Option (Int32 × hb_M) :=
  (hb_on σ x0 9 (f_X9_fieldsOf x0 x1 σ)).bind fun r1 =>
  f_X9_sizeOfClass_b13 hb_FU x0 ((12 : Int32) + ((4 : Int32) * r1.1)) x1 r1.2
def f_X9_isBelow_b26 (k5 : Nat → Int32 → Int32 → Int32 → hb_M → Option (Int32 × hb_M)) (x0 : Nat) (x2 : Int32) (x4 : Int32) (s0 : Int32) (σ : hb_M) : Option (Int32 × hb_M) :=
  (hb_getR σ x0 9 0).bind fun r1 =>
  (hb_iald σ r1 ((1 : Int32) + x4)).bind fun r2 =>
  k5 x0 x2 s0 r2 σ
def f_X9_isBelow_b21 (k5 : Nat → Int32 → Int32 → Int32 → hb_M → Option (Int32 × hb_M)) (x0 : Nat) (x2 : Int32) (x4 : Int32) (σ : hb_M) : Option (Int32 × hb_M) :=
  f_X9_isBelow_b26 k5 x0 x2 x4 (1 : Int32) σ
def f_X9_isBelow_b5 : Nat → Nat → Int32 → Int32 → Int32 → hb_M → Option (Int32 × hb_M)
  | 0, _, _, _, _, _ => none
  | n + 1, x0, x2, x3, x4, σ =>
    if x4 = (-1 : Int32) then
      hb_zr x3 σ
    else
      if x3 = 0 then
        if x4 = x2 then
          f_X9_isBelow_b21 (f_X9_isBelow_b5 n) x0 x2 x4 σ
        else
          f_X9_isBelow_b26 (f_X9_isBelow_b5 n) x0 x2 x4 (0 : Int32) σ
      else
        f_X9_isBelow_b21 (f_X9_isBelow_b5 n) x0 x2 x4 σ
def f_X9_isBelow (x0 : Nat) (x1 : Int32) (x2 : Int32) (σ : hb_M) : Option (Int32 × hb_M) :=
  f_X9_isBelow_b5 hb_FU x0 x2 (0 : Int32) x1 σ
def f_X9_defineClass_b84 (x0 : Nat) (x1 : Int32) (x2 : Int32) (x3 : Int32) (s0 : Nat) (s1 : Int32) (σ : hb_M) : Option (Int32 × hb_M) :=
  (hb_on σ s0 9 (f_X9_refused s0 s1 σ)).bind fun r1 =>
  if r1.1 = 0 then
    (hb_on r1.2 x0 9 (f_X9_saves x0 r1.2)).bind fun r3 =>
    (hb_getR r3 x0 9 0).bind fun r4 =>
    (hb_iald r3 r4 (0 : Int32)).bind fun r5 =>
    (hb_getR r3 x0 9 0).bind fun r6 =>
    (hb_iald r3 r6 (0 : Int32)).bind fun r7 =>
    (hb_iast r3 r6 (0 : Int32) (r7 + (1 : Int32))).bind fun r8 =>
    (hb_getR r8 x0 9 0).bind fun r9 =>
    (hb_iast r8 r9 ((1 : Int32) + r5) x1).bind fun r10 =>
    (hb_getR r10 x0 9 0).bind fun r11 =>
    (hb_iast r10 r11 ((11 : Int32) + r5) x2).bind fun r12 =>
    (hb_getR r12 x0 9 0).bind fun r13 =>
    (hb_iast r12 r13 ((21 : Int32) + r5) x3).bind fun r14 =>
    some (r5, r14)
  else
    some ((0 : Int32), r1.2)
def f_X9_defineClass_b47 (x0 : Nat) (x1 : Int32) (x2 : Int32) (x3 : Int32) (x4 : Int32) (s0 : Int32) (σ : hb_M) : Option (Int32 × hb_M) :=
  if x4 = 0 then
    f_X9_defineClass_b84 x0 x1 x2 x3 x0 (1 : Int32) σ
  else
    if s0 = 0 then
      f_X9_defineClass_b84 x0 x1 x2 x3 x0 (2 : Int32) σ
    else
      (hb_getR σ x0 9 0).bind fun r3 =>
      (hb_iald σ r3 (0 : Int32)).bind fun r4 =>
      if r4 = (10 : Int32) then
        f_X9_defineClass_b84 x0 x1 x2 x3 x0 (3 : Int32) σ
      else
        f_X9_defineClass_b84 x0 x1 x2 x3 x0 (0 : Int32) σ
def f_X9_defineClass_b46 (x0 : Nat) (x1 : Int32) (x2 : Int32) (x3 : Int32) (x4 : Int32) (σ : hb_M) : Option (Int32 × hb_M) :=
  f_X9_defineClass_b47 x0 x1 x2 x3 x4 (0 : Int32) σ
def f_X9_defineClass (x0 : Nat) (x1 : Int32) (x2 : Int32) (x3 : Int32) (σ : hb_M) : Option (Int32 × hb_M) :=
  (hb_on σ x0 9 (f_X9_isClass x0 x1 σ)).bind fun r1 =>
  if r1.1 = 0 then
    f_X9_defineClass_b46 x0 x1 x2 x3 r1.1 r1.2
  else
    (f_X9_within x2 (0 : Int32) (3 : Int32) r1.2).bind fun r3 =>
    if r3.1 = 0 then
      f_X9_defineClass_b46 x0 x1 x2 x3 r1.1 r3.2
    else
      (f_X9_within x3 (0 : Int32) (40 : Int32) r3.2).bind fun r5 =>
      if r5.1 = 0 then
        f_X9_defineClass_b46 x0 x1 x2 x3 r1.1 r5.2
      else
        (hb_on r5.2 x0 9 (f_X9_fieldsOf x0 x1 r5.2)).bind fun r7 =>
        if (5 : Int32) < (r7.1 + x2) then
          f_X9_defineClass_b46 x0 x1 x2 x3 r1.1 r7.2
        else
          f_X9_defineClass_b47 x0 x1 x2 x3 r1.1 (1 : Int32) r7.2
def f_X9_classes (x0 : Nat) (σ : hb_M) : Option (Int32 × hb_M) :=
  (hb_putI σ x0 9 4 (0 : Int32)).bind fun r1 =>
  (hb_getR r1 x0 9 0).bind fun r2 =>
  (hb_iald r1 r2 (0 : Int32)).bind fun r3 =>
  some (r3, r1)
def f_X9_classBy_b70 (k40 : Nat → Int32 → Int32 → Int32 → hb_M → Option (Int32 × hb_M)) (x0 : Nat) (x1 : Int32) (x4 : Int32) (s0 : Int32) (s1 : Int32) (σ : hb_M) : Option (Int32 × hb_M) :=
  k40 x0 x1 (s0 + s1) (x4 + (1 : Int32)) σ
def f_X9_classBy_b40 : Nat → Nat → Int32 → Int32 → Int32 → hb_M → Option (Int32 × hb_M)
  | 0, _, _, _, _, _ => none
  | n + 1, x0, x1, x3, x4, σ =>
    (hb_getR σ x0 9 0).bind fun r1 =>
    (hb_iald σ r1 (0 : Int32)).bind fun r2 =>
    if r2 ≤ x4 then
      some (x3, σ)
    else
      (hb_getR σ x0 9 0).bind fun r4 =>
      (hb_iald σ r4 ((1 : Int32) + x4)).bind fun r5 =>
      if r5 = x1 then
        f_X9_classBy_b70 (f_X9_classBy_b40 n) x0 x1 x4 x3 (1 : Int32) σ
      else
        f_X9_classBy_b70 (f_X9_classBy_b40 n) x0 x1 x4 x3 (0 : Int32) σ
def f_X9_classBy (x0 : Nat) (x1 : Int32) (x2 : Int32) (σ : hb_M) : Option (Int32 × hb_M) :=
  if x2 = 0 then
    (hb_getR σ x0 9 0).bind fun r6 =>
    (hb_iald σ r6 ((1 : Int32) + x1)).bind fun r7 =>
    some (r7, σ)
  else
    if x2 = (1 : Int32) then
      (hb_on σ x0 9 (f_X9_fieldsOf x0 x1 σ)).bind fun r5 =>
      some (r5.1, r5.2)
    else
      if x2 = (2 : Int32) then
        (hb_on σ x0 9 (f_X9_sizeOfClass x0 x1 σ)).bind fun r4 =>
        some (r4.1, r4.2)
      else
        f_X9_classBy_b40 hb_FU x0 x1 (0 : Int32) (0 : Int32) σ
def f_X9_classInfo_b27 (x0 : Nat) (x1 : Int32) (x2 : Int32) (s0 : Nat) (s1 : Int32) (σ : hb_M) : Option (Int32 × hb_M) :=
  (hb_on σ s0 9 (f_X9_refused s0 s1 σ)).bind fun r1 =>
  if r1.1 = 0 then
    (hb_on r1.2 x0 9 (f_X9_classBy x0 x1 x2 r1.2)).bind fun r3 =>
    some (r3.1, r3.2)
  else
    some ((0 : Int32), r1.2)
def f_X9_classInfo (x0 : Nat) (x1 : Int32) (x2 : Int32) (σ : hb_M) : Option (Int32 × hb_M) :=
  (hb_on σ x0 9 (f_X9_isClass x0 x1 σ)).bind fun r1 =>
  if r1.1 = 0 then
    f_X9_classInfo_b27 x0 x1 x2 x0 (1 : Int32) r1.2
  else
    (f_X9_within x2 (0 : Int32) (3 : Int32) r1.2).bind fun r3 =>
    if r3.1 = 0 then
      f_X9_classInfo_b27 x0 x1 x2 x0 (2 : Int32) r3.2
    else
      f_X9_classInfo_b27 x0 x1 x2 x0 (0 : Int32) r3.2
def f_X9_isSubclass_b22 (x0 : Nat) (x1 : Int32) (x2 : Int32) (s0 : Nat) (s1 : Int32) (σ : hb_M) : Option (Int32 × hb_M) :=
  (hb_on σ s0 9 (f_X9_refused s0 s1 σ)).bind fun r1 =>
  if r1.1 = 0 then
    (hb_on r1.2 x0 9 (f_X9_isBelow x0 x1 x2 r1.2)).bind fun r3 =>
    if r3.1 = 0 then
      some ((0 : Int32), r3.2)
    else
      some ((1 : Int32), r3.2)
  else
    some ((0 : Int32), r1.2)
def f_X9_isSubclass_b21 (x0 : Nat) (x1 : Int32) (x2 : Int32) (s0 : Nat) (σ : hb_M) : Option (Int32 × hb_M) :=
  f_X9_isSubclass_b22 x0 x1 x2 s0 (1 : Int32) σ
def f_X9_isSubclass (x0 : Nat) (x1 : Int32) (x2 : Int32) (σ : hb_M) : Option (Int32 × hb_M) :=
  (hb_on σ x0 9 (f_X9_isClass x0 x1 σ)).bind fun r1 =>
  if r1.1 = 0 then
    f_X9_isSubclass_b21 x0 x1 x2 x0 r1.2
  else
    (hb_on r1.2 x0 9 (f_X9_isClass x0 x2 r1.2)).bind fun r3 =>
    if r3.1 = 0 then
      f_X9_isSubclass_b21 x0 x1 x2 x0 r3.2
    else
      f_X9_isSubclass_b22 x0 x1 x2 x0 (0 : Int32) r3.2
def f_X9_at (x0 : Int32) (σ : hb_M) : Option (Int32 × hb_M) :=
  some (((32 : Int32) + ((13 : Int32) * x0)), σ)
def f_X9_isObject (x0 : Nat) (x1 : Int32) (σ : hb_M) : Option (Int32 × hb_M) :=
  (f_X9_within x1 (0 : Int32) (39 : Int32) σ).bind fun r1 =>
  if r1.1 = 0 then
    some ((0 : Int32), r1.2)
  else
    (hb_getR r1.2 x0 9 0).bind fun r3 =>
    (f_X9_at x1 r1.2).bind fun r4 =>
    (hb_iald r4.2 r3 (r4.1 + (0 : Int32))).bind fun r5 =>
    if r5 = 0 then
      some ((0 : Int32), r4.2)
    else
      some ((1 : Int32), r4.2)
def f_X9_isSlot (x0 : Nat) (x1 : Int32) (x2 : Int32) (σ : hb_M) : Option (Int32 × hb_M) :=
  (hb_on σ x0 9 (f_X9_isObject x0 x1 σ)).bind fun r1 =>
  if r1.1 = 0 then
    some ((0 : Int32), r1.2)
  else
    (hb_getR r1.2 x0 9 0).bind fun r3 =>
    (f_X9_at x1 r1.2).bind fun r4 =>
    (hb_iald r4.2 r3 (r4.1 + (2 : Int32))).bind fun r5 =>
    (f_X9_within x2 (0 : Int32) (r5 - (1 : Int32)) r4.2).bind fun r6 =>
    if r6.1 = 0 then
      some ((0 : Int32), r6.2)
    else
      some ((1 : Int32), r6.2)
def f_X9_many_b24 (k4 : Nat → Int32 → Int32 → hb_M → Option (Int32 × hb_M)) (x0 : Nat) (x2 : Int32) (s0 : Int32) (s1 : Int32) (σ : hb_M) : Option (Int32 × hb_M) :=
  k4 x0 (s0 + s1) (x2 + (1 : Int32)) σ
def f_X9_many_b4 : Nat → Nat → Int32 → Int32 → hb_M → Option (Int32 × hb_M)
  | 0, _, _, _, _ => none
  | n + 1, x0, x1, x2, σ =>
    if (40 : Int32) ≤ x2 then
      some (x1, σ)
    else
      (hb_on σ x0 9 (f_X9_isObject x0 x2 σ)).bind fun r2 =>
      if r2.1 = 0 then
        f_X9_many_b24 (f_X9_many_b4 n) x0 x2 x1 (0 : Int32) r2.2
      else
        f_X9_many_b24 (f_X9_many_b4 n) x0 x2 x1 (1 : Int32) r2.2
def f_X9_many (x0 : Nat) (σ : hb_M) : Option (Int32 × hb_M) :=
  f_X9_many_b4 hb_FU x0 (0 : Int32) (0 : Int32) σ
def f_X9_sizeOf (x0 : Nat) (x1 : Int32) (σ : hb_M) : Option (Int32 × hb_M) :=
  (hb_getR σ x0 9 0).bind fun r1 =>
  (f_X9_at x1 σ).bind fun r2 =>
  (hb_iald r2.2 r1 (r2.1 + (1 : Int32))).bind fun r3 =>
  if r3 = (11 : Int32) then
    some ((24 : Int32), r2.2)
  else
    if r3 = (10 : Int32) then
      (hb_getR r2.2 x0 9 0).bind fun r7 =>
      (f_X9_at x1 r2.2).bind fun r8 =>
      (hb_iald r8.2 r7 (r8.1 + (2 : Int32))).bind fun r9 =>
      some ((((((16 : Int32) + ((4 : Int32) * r9)) + (7 : Int32)) / (8 : Int32)) * (8 : Int32)), r8.2)
    else
      (hb_on r2.2 x0 9 (f_X9_sizeOfClass x0 r3 r2.2)).bind fun r6 =>
      some (r6.1, r6.2)
def f_X9_sizes_b35 (k5 : Nat → Int64 → Int64 → Int32 → hb_M → Option (Int64 × hb_M)) (x0 : Nat) (x1 : Int64) (x5 : Int32) (s0 : Int64) (s1 : Int64) (σ : hb_M) : Option (Int64 × hb_M) :=
  k5 x0 x1 (s0 + s1) (x5 + (1 : Int32)) σ
def f_X9_sizes_b5 : Nat → Nat → Int64 → Int64 → Int32 → hb_M → Option (Int64 × hb_M)
  | 0, _, _, _, _, _ => none
  | n + 1, x0, x1, x3, x5, σ =>
    if (40 : Int32) ≤ x5 then
      some (x3, σ)
    else
      if (lg_cmp ((x1 >>> (x5.toInt64 &&& 63)) &&& (1 : Int64)) (1 : Int64)) = 0 then
        (hb_on σ x0 9 (f_X9_sizeOf x0 x5 σ)).bind fun r3 =>
        f_X9_sizes_b35 (f_X9_sizes_b5 n) x0 x1 x5 x3 r3.1.toInt64 r3.2
      else
        f_X9_sizes_b35 (f_X9_sizes_b5 n) x0 x1 x5 x3 (0 : Int64) σ
def f_X9_sizes (x0 : Nat) (x1 : Int64) (σ : hb_M) : Option (Int64 × hb_M) :=
  f_X9_sizes_b5 hb_FU x0 x1 (0 : Int64) (0 : Int32) σ
def f_X9_creates_b96 : Nat → Nat → Int32 → Int32 → hb_M → Option (Int32 × hb_M)
  | 0, _, _, _, _ => none
  | n + 1, x0, x3, x4, σ =>
    if (8 : Int32) ≤ x4 then
      some (x3, σ)
    else
      (hb_getR σ x0 9 0).bind fun r2 =>
      (f_X9_at x3 σ).bind fun r3 =>
      (hb_iast r3.2 r2 ((r3.1 + (5 : Int32)) + x4) (-1 : Int32)).bind fun r4 =>
      f_X9_creates_b96 n x0 x3 (x4 + (1 : Int32)) r4
def f_X9_creates_b2 : Nat → Nat → Int32 → Int32 → Int32 → hb_M → Option (Int32 × hb_M)
  | 0, _, _, _, _, _ => none
  | n + 1, x0, x1, x2, x3, σ =>
    (hb_on σ x0 9 (f_X9_isObject x0 x3 σ)).bind fun r1 =>
    if r1.1 = 0 then
      (hb_getR r1.2 x0 9 0).bind fun r3 =>
      (f_X9_at x3 r1.2).bind fun r4 =>
      (hb_getR r4.2 x0 9 0).bind fun r5 =>
      (hb_iald r4.2 r5 (31 : Int32)).bind fun r6 =>
      (hb_iast r4.2 r3 (r4.1 + (0 : Int32)) r6).bind fun r7 =>
      (hb_getR r7 x0 9 0).bind fun r8 =>
      (hb_iald r7 r8 (31 : Int32)).bind fun r9 =>
      (hb_iast r7 r8 (31 : Int32) (r9 + (1 : Int32))).bind fun r10 =>
      (hb_getR r10 x0 9 0).bind fun r11 =>
      (f_X9_at x3 r10).bind fun r12 =>
      (hb_iast r12.2 r11 (r12.1 + (1 : Int32)) x1).bind fun r13 =>
      (hb_getR r13 x0 9 0).bind fun r14 =>
      (f_X9_at x3 r13).bind fun r15 =>
      (hb_iast r15.2 r14 (r15.1 + (2 : Int32)) x2).bind fun r16 =>
      (hb_getR r16 x0 9 0).bind fun r17 =>
      (f_X9_at x3 r16).bind fun r18 =>
      (hb_iast r18.2 r17 (r18.1 + (3 : Int32)) (0 : Int32)).bind fun r19 =>
      (hb_getR r19 x0 9 0).bind fun r20 =>
      (f_X9_at x3 r19).bind fun r21 =>
      (hb_iast r21.2 r20 (r21.1 + (4 : Int32)) (0 : Int32)).bind fun r22 =>
      f_X9_creates_b96 hb_FU x0 x3 (0 : Int32) r22
    else
      f_X9_creates_b2 n x0 x1 x2 (x3 + (1 : Int32)) r1.2
def f_X9_creates (x0 : Nat) (x1 : Int32) (x2 : Int32) (σ : hb_M) : Option (Int32 × hb_M) :=
  f_X9_creates_b2 hb_FU x0 x1 x2 (0 : Int32) σ
def f_X9_instanceRefusal (x0 : Nat) (x1 : Int32) (σ : hb_M) : Option (Int32 × hb_M) :=
  (hb_on σ x0 9 (f_X9_isClass x0 x1 σ)).bind fun r1 =>
  if r1.1 = 0 then
    some ((1 : Int32), r1.2)
  else
    (hb_on r1.2 x0 9 (f_X9_many x0 r1.2)).bind fun r3 =>
    if r3.1 = (40 : Int32) then
      some ((2 : Int32), r3.2)
    else
      some ((0 : Int32), r3.2)
def f_X9_newInstance (x0 : Nat) (x1 : Int32) (σ : hb_M) : Option (Int32 × hb_M) :=
  (hb_on σ x0 9 (f_X9_instanceRefusal x0 x1 σ)).bind fun r1 =>
  (hb_on r1.2 x0 9 (f_X9_refused x0 r1.1 r1.2)).bind fun r2 =>
  if r2.1 = 0 then
    (hb_on r2.2 x0 9 (f_X9_saves x0 r2.2)).bind fun r4 =>
    (hb_on r4 x0 9 (f_X9_fieldsOf x0 x1 r4)).bind fun r5 =>
    (hb_on r5.2 x0 9 (f_X9_creates x0 x1 r5.1 r5.2)).bind fun r6 =>
    some (r6.1, r6.2)
  else
    some ((0 : Int32), r2.2)
def f_X9_arrayRefusal (x0 : Nat) (x1 : Int32) (σ : hb_M) : Option (Int32 × hb_M) :=
  (f_X9_within x1 (0 : Int32) (8 : Int32) σ).bind fun r1 =>
  if r1.1 = 0 then
    some ((1 : Int32), r1.2)
  else
    (hb_on r1.2 x0 9 (f_X9_many x0 r1.2)).bind fun r3 =>
    if r3.1 = (40 : Int32) then
      some ((2 : Int32), r3.2)
    else
      some ((0 : Int32), r3.2)
def f_X9_newArray (x0 : Nat) (x1 : Int32) (σ : hb_M) : Option (Int32 × hb_M) :=
  (hb_on σ x0 9 (f_X9_arrayRefusal x0 x1 σ)).bind fun r1 =>
  (hb_on r1.2 x0 9 (f_X9_refused x0 r1.1 r1.2)).bind fun r2 =>
  if r2.1 = 0 then
    (hb_on r2.2 x0 9 (f_X9_saves x0 r2.2)).bind fun r4 =>
    (hb_on r4 x0 9 (f_X9_creates x0 (10 : Int32) x1 r4)).bind fun r5 =>
    some (r5.1, r5.2)
  else
    some ((0 : Int32), r2.2)
def f_X9_newHolder_b15 (x0 : Nat) (s0 : Nat) (s1 : Int32) (σ : hb_M) : Option (Int32 × hb_M) :=
  (hb_on σ s0 9 (f_X9_refused s0 s1 σ)).bind fun r1 =>
  if r1.1 = 0 then
    (hb_on r1.2 x0 9 (f_X9_saves x0 r1.2)).bind fun r3 =>
    (hb_on r3 x0 9 (f_X9_creates x0 (11 : Int32) (1 : Int32) r3)).bind fun r4 =>
    some (r4.1, r4.2)
  else
    some ((0 : Int32), r1.2)
def f_X9_newHolder (x0 : Nat) (σ : hb_M) : Option (Int32 × hb_M) :=
  (hb_on σ x0 9 (f_X9_many x0 σ)).bind fun r1 =>
  if r1.1 = (40 : Int32) then
    f_X9_newHolder_b15 x0 x0 (1 : Int32) r1.2
  else
    f_X9_newHolder_b15 x0 x0 (0 : Int32) r1.2
def f_X9_setRefusal (x0 : Nat) (x1 : Int32) (x2 : Int32) (x3 : Int32) (σ : hb_M) : Option (Int32 × hb_M) :=
  (hb_on σ x0 9 (f_X9_isSlot x0 x1 x2 σ)).bind fun r1 =>
  if r1.1 = 0 then
    some ((1 : Int32), r1.2)
  else
    if x3 = (-1 : Int32) then
      some ((0 : Int32), r1.2)
    else
      (hb_on r1.2 x0 9 (f_X9_isObject x0 x3 r1.2)).bind fun r4 =>
      if r4.1 = 0 then
        some ((1 : Int32), r4.2)
      else
        some ((0 : Int32), r4.2)
def f_X9_set (x0 : Nat) (x1 : Int32) (x2 : Int32) (x3 : Int32) (σ : hb_M) : Option (Int32 × hb_M) :=
  (hb_on σ x0 9 (f_X9_setRefusal x0 x1 x2 x3 σ)).bind fun r1 =>
  (hb_on r1.2 x0 9 (f_X9_refused x0 r1.1 r1.2)).bind fun r2 =>
  if r2.1 = 0 then
    (hb_on r2.2 x0 9 (f_X9_saves x0 r2.2)).bind fun r4 =>
    (hb_getR r4 x0 9 0).bind fun r5 =>
    (f_X9_at x1 r4).bind fun r6 =>
    (hb_iald r6.2 r5 ((r6.1 + (5 : Int32)) + x2)).bind fun r7 =>
    (hb_getR r6.2 x0 9 0).bind fun r8 =>
    (f_X9_at x1 r6.2).bind fun r9 =>
    (hb_iast r9.2 r8 ((r9.1 + (5 : Int32)) + x2) x3).bind fun r10 =>
    some (r7, r10)
  else
    some ((0 : Int32), r2.2)
def f_X9_get_b15 (x0 : Nat) (x1 : Int32) (x2 : Int32) (s0 : Nat) (s1 : Int32) (σ : hb_M) : Option (Int32 × hb_M) :=
  (hb_on σ s0 9 (f_X9_refused s0 s1 σ)).bind fun r1 =>
  if r1.1 = 0 then
    (hb_getR r1.2 x0 9 0).bind fun r3 =>
    (f_X9_at x1 r1.2).bind fun r4 =>
    (hb_iald r4.2 r3 ((r4.1 + (5 : Int32)) + x2)).bind fun r5 =>
    some (r5, r4.2)
  else
    some ((0 : Int32), r1.2)
def f_X9_get (x0 : Nat) (x1 : Int32) (x2 : Int32) (σ : hb_M) : Option (Int32 × hb_M) :=
  (hb_on σ x0 9 (f_X9_isSlot x0 x1 x2 σ)).bind fun r1 =>
  if r1.1 = 0 then
    f_X9_get_b15 x0 x1 x2 x0 (1 : Int32) r1.2
  else
    f_X9_get_b15 x0 x1 x2 x0 (0 : Int32) r1.2
def f_X9_resizeArray_b87 : Nat → Nat → Int32 → Int32 → Int32 → hb_M → Option (Int32 × hb_M)
  | 0, _, _, _, _, _ => none
  | n + 1, x0, x1, x3, x4, σ =>
    if (8 : Int32) ≤ x4 then
      some (x3, σ)
    else
      (hb_getR σ x0 9 0).bind fun r2 =>
      (f_X9_at x1 σ).bind fun r3 =>
      (hb_iast r3.2 r2 ((r3.1 + (5 : Int32)) + x4) (-1 : Int32)).bind fun r4 =>
      f_X9_resizeArray_b87 n x0 x1 x3 (x4 + (1 : Int32)) r4
def f_X9_resizeArray_b48 (x0 : Nat) (x1 : Int32) (x2 : Int32) (s0 : Nat) (s1 : Int32) (σ : hb_M) : Option (Int32 × hb_M) :=
  (hb_on σ s0 9 (f_X9_refused s0 s1 σ)).bind fun r1 =>
  if r1.1 = 0 then
    (hb_on r1.2 x0 9 (f_X9_saves x0 r1.2)).bind fun r3 =>
    (hb_getR r3 x0 9 0).bind fun r4 =>
    (f_X9_at x1 r3).bind fun r5 =>
    (hb_iald r5.2 r4 (r5.1 + (2 : Int32))).bind fun r6 =>
    (hb_getR r5.2 x0 9 0).bind fun r7 =>
    (f_X9_at x1 r5.2).bind fun r8 =>
    (hb_iast r8.2 r7 (r8.1 + (2 : Int32)) x2).bind fun r9 =>
    f_X9_resizeArray_b87 hb_FU x0 x1 r6 x2 r9
  else
    some ((0 : Int32), r1.2)
def f_X9_resizeArray (x0 : Nat) (x1 : Int32) (x2 : Int32) (σ : hb_M) : Option (Int32 × hb_M) :=
  (hb_on σ x0 9 (f_X9_isObject x0 x1 σ)).bind fun r1 =>
  if r1.1 = 0 then
    f_X9_resizeArray_b48 x0 x1 x2 x0 (1 : Int32) r1.2
  else
    (f_X9_within x2 (0 : Int32) (8 : Int32) r1.2).bind fun r3 =>
    if r3.1 = 0 then
      f_X9_resizeArray_b48 x0 x1 x2 x0 (2 : Int32) r3.2
    else
      (hb_getR r3.2 x0 9 0).bind fun r5 =>
      (f_X9_at x1 r3.2).bind fun r6 =>
      (hb_iald r6.2 r5 (r6.1 + (1 : Int32))).bind fun r7 =>
      if r7 = (10 : Int32) then
        f_X9_resizeArray_b48 x0 x1 x2 x0 (0 : Int32) r6.2
      else
        f_X9_resizeArray_b48 x0 x1 x2 x0 (3 : Int32) r6.2
def f_X9_referent_b34 (x0 : Nat) (x1 : Int32) (s0 : Nat) (s1 : Int32) (σ : hb_M) : Option (Int32 × hb_M) :=
  (hb_on σ s0 9 (f_X9_refused s0 s1 σ)).bind fun r1 =>
  if r1.1 = 0 then
    (hb_getR r1.2 x0 9 0).bind fun r3 =>
    (f_X9_at x1 r1.2).bind fun r4 =>
    (hb_iald r4.2 r3 (r4.1 + (5 : Int32))).bind fun r5 =>
    some (r5, r4.2)
  else
    some ((0 : Int32), r1.2)
def f_X9_referent (x0 : Nat) (x1 : Int32) (σ : hb_M) : Option (Int32 × hb_M) :=
  (hb_on σ x0 9 (f_X9_isObject x0 x1 σ)).bind fun r1 =>
  if r1.1 = 0 then
    f_X9_referent_b34 x0 x1 x0 (1 : Int32) r1.2
  else
    (hb_getR r1.2 x0 9 0).bind fun r3 =>
    (f_X9_at x1 r1.2).bind fun r4 =>
    (hb_iald r4.2 r3 (r4.1 + (1 : Int32))).bind fun r5 =>
    if r5 = (11 : Int32) then
      f_X9_referent_b34 x0 x1 x0 (0 : Int32) r4.2
    else
      f_X9_referent_b34 x0 x1 x0 (2 : Int32) r4.2
def f_X9_rootRefusal (x0 : Nat) (x1 : Int32) (x2 : Int32) (σ : hb_M) : Option (Int32 × hb_M) :=
  (hb_on σ x0 9 (f_X9_isObject x0 x1 σ)).bind fun r1 =>
  if r1.1 = 0 then
    some ((1 : Int32), r1.2)
  else
    (f_X9_within x2 (0 : Int32) (2 : Int32) r1.2).bind fun r3 =>
    if r3.1 = 0 then
      some ((2 : Int32), r3.2)
    else
      some ((0 : Int32), r3.2)
def f_X9_addRoot (x0 : Nat) (x1 : Int32) (x2 : Int32) (σ : hb_M) : Option (Int32 × hb_M) :=
  (hb_on σ x0 9 (f_X9_rootRefusal x0 x1 x2 σ)).bind fun r1 =>
  (hb_on r1.2 x0 9 (f_X9_refused x0 r1.1 r1.2)).bind fun r2 =>
  if r2.1 = 0 then
    (hb_on r2.2 x0 9 (f_X9_saves x0 r2.2)).bind fun r4 =>
    (hb_getR r4 x0 9 0).bind fun r5 =>
    (f_X9_at x1 r4).bind fun r6 =>
    (hb_iald r6.2 r5 (r6.1 + (4 : Int32))).bind fun r7 =>
    (hb_iast r6.2 r5 (r6.1 + (4 : Int32)) (r7 ||| ((1 : Int32) <<< (x2 &&& 31)))).bind fun r8 =>
    (hb_getR r8 x0 9 0).bind fun r9 =>
    (f_X9_at x1 r8).bind fun r10 =>
    (hb_iald r10.2 r9 (r10.1 + (4 : Int32))).bind fun r11 =>
    some (r11, r10.2)
  else
    some ((0 : Int32), r2.2)
def f_X9_unrootRefusal (x0 : Nat) (x1 : Int32) (x2 : Int32) (σ : hb_M) : Option (Int32 × hb_M) :=
  (hb_on σ x0 9 (f_X9_rootRefusal x0 x1 x2 σ)).bind fun r1 =>
  if r1.1 = 0 then
    (hb_getR r1.2 x0 9 0).bind fun r3 =>
    (f_X9_at x1 r1.2).bind fun r4 =>
    (hb_iald r4.2 r3 (r4.1 + (4 : Int32))).bind fun r5 =>
    if ((r5 >>> (x2 &&& 31)) &&& (1 : Int32)) = 0 then
      some ((3 : Int32), r4.2)
    else
      some ((0 : Int32), r4.2)
  else
    some (r1.1, r1.2)
def f_X9_removeRoot (x0 : Nat) (x1 : Int32) (x2 : Int32) (σ : hb_M) : Option (Int32 × hb_M) :=
  (hb_on σ x0 9 (f_X9_unrootRefusal x0 x1 x2 σ)).bind fun r1 =>
  (hb_on r1.2 x0 9 (f_X9_refused x0 r1.1 r1.2)).bind fun r2 =>
  if r2.1 = 0 then
    (hb_on r2.2 x0 9 (f_X9_saves x0 r2.2)).bind fun r4 =>
    (hb_getR r4 x0 9 0).bind fun r5 =>
    (f_X9_at x1 r4).bind fun r6 =>
    (hb_iald r6.2 r5 (r6.1 + (4 : Int32))).bind fun r7 =>
    (hb_iast r6.2 r5 (r6.1 + (4 : Int32)) (r7 &&& (((1 : Int32) <<< (x2 &&& 31)) ^^^ (-1 : Int32)))).bind fun r8 =>
    (hb_getR r8 x0 9 0).bind fun r9 =>
    (f_X9_at x1 r8).bind fun r10 =>
    (hb_iald r10.2 r9 (r10.1 + (4 : Int32))).bind fun r11 =>
    some (r11, r10.2)
  else
    some ((0 : Int32), r2.2)
def f_X9_refersTo_b81 (k22 : Nat → Int32 → Int32 → Int32 → Int64 → Int32 → hb_M → Option (Int64 × hb_M)) (x0 : Nat) (x1 : Int32) (x2 : Int32) (x3 : Int32) (x6 : Int32) (s0 : Int64) (s1 : Int64) (σ : hb_M) : Option (Int64 × hb_M) :=
  k22 x0 x1 x2 x3 (s0 ||| s1) (x6 + (1 : Int32)) σ
def f_X9_refersTo_b73 (k22 : Nat → Int32 → Int32 → Int32 → Int64 → Int32 → hb_M → Option (Int64 × hb_M)) (x0 : Nat) (x1 : Int32) (x2 : Int32) (x3 : Int32) (x6 : Int32) (s0 : Int64) (σ : hb_M) : Option (Int64 × hb_M) :=
  f_X9_refersTo_b81 k22 x0 x1 x2 x3 x6 s0 (0 : Int64) σ
def f_X9_refersTo_b77 (k22 : Nat → Int32 → Int32 → Int32 → Int64 → Int32 → hb_M → Option (Int64 × hb_M)) (x0 : Nat) (x1 : Int32) (x2 : Int32) (x3 : Int32) (x6 : Int32) (x7 : Int32) (s0 : Int64) (σ : hb_M) : Option (Int64 × hb_M) :=
  f_X9_refersTo_b81 k22 x0 x1 x2 x3 x6 s0 ((1 : Int64) <<< (x7.toInt64 &&& 63)) σ
def f_X9_refersTo_b22 : Nat → Nat → Int32 → Int32 → Int32 → Int64 → Int32 → hb_M → Option (Int64 × hb_M)
  | 0, _, _, _, _, _, _, _ => none
  | n + 1, x0, x1, x2, x3, x4, x6, σ =>
    (hb_getR σ x0 9 0).bind fun r1 =>
    (f_X9_at x1 σ).bind fun r2 =>
    (hb_iald r2.2 r1 (r2.1 + (2 : Int32))).bind fun r3 =>
    if r3 ≤ x6 then
      some (x4, r2.2)
    else
      (hb_getR r2.2 x0 9 0).bind fun r5 =>
      (f_X9_at x1 r2.2).bind fun r6 =>
      (hb_iald r6.2 r5 ((r6.1 + (5 : Int32)) + x6)).bind fun r7 =>
      if r7 = (-1 : Int32) then
        f_X9_refersTo_b73 (f_X9_refersTo_b22 n) x0 x1 x2 x3 x6 x4 r6.2
      else
        if x1 = x2 then
          if x6 = x3 then
            f_X9_refersTo_b73 (f_X9_refersTo_b22 n) x0 x1 x2 x3 x6 x4 r6.2
          else
            f_X9_refersTo_b77 (f_X9_refersTo_b22 n) x0 x1 x2 x3 x6 r7 x4 r6.2
        else
          f_X9_refersTo_b77 (f_X9_refersTo_b22 n) x0 x1 x2 x3 x6 r7 x4 r6.2
def f_X9_refersTo (x0 : Nat) (x1 : Int32) (x2 : Int32) (x3 : Int32) (σ : hb_M) : Option (Int64 × hb_M) :=
  (hb_getR σ x0 9 0).bind fun r1 =>
  (f_X9_at x1 σ).bind fun r2 =>
  (hb_iald r2.2 r1 (r2.1 + (1 : Int32))).bind fun r3 =>
  if r3 = (11 : Int32) then
    some ((0 : Int64), r2.2)
  else
    f_X9_refersTo_b22 hb_FU x0 x1 x2 x3 (0 : Int64) (0 : Int32) r2.2
def f_X9_reached_b142 (k76 : Nat → Int64 → Int32 → Int32 → Int64 → Int64 → hb_M → Option (Int64 × hb_M)) (k102 : Nat → Int64 → Int32 → Int32 → Int64 → Int64 → Int64 → Int32 → hb_M → Option (Int64 × hb_M)) (x0 : Nat) (x1 : Int64) (x3 : Int32) (x4 : Int32) (x8 : Int64) (x10 : Int64) (x12 : Int32) (s0 : Int64) (s1 : Int64) (σ : hb_M) : Option (Int64 × hb_M) :=
  k102 x0 x1 x3 x4 (s0 ||| s1) x8 x10 (x12 + (1 : Int32)) σ
def f_X9_reached_b102 (k76 : Nat → Int64 → Int32 → Int32 → Int64 → Int64 → hb_M → Option (Int64 × hb_M)) : Nat → Nat → Int64 → Int32 → Int32 → Int64 → Int64 → Int64 → Int32 → hb_M → Option (Int64 × hb_M)
  | 0, _, _, _, _, _, _, _, _, _ => none
  | n + 1, x0, x1, x3, x4, x6, x8, x10, x12, σ =>
    if (40 : Int32) ≤ x12 then
      k76 x0 x1 x3 x4 x6 x8 σ
    else
      if (lg_cmp ((x10 >>> (x12.toInt64 &&& 63)) &&& (1 : Int64)) (1 : Int64)) = 0 then
        (hb_on σ x0 9 (f_X9_refersTo x0 x12 x3 x4 σ)).bind fun r3 =>
        f_X9_reached_b142 k76 (f_X9_reached_b102 k76 n) x0 x1 x3 x4 x8 x10 x12 x6 (r3.1 &&& (x1 ^^^ (-1 : Int64))) r3.2
      else
        f_X9_reached_b142 k76 (f_X9_reached_b102 k76 n) x0 x1 x3 x4 x8 x10 x12 x6 (0 : Int64) σ
def f_X9_reached_b76 : Nat → Nat → Int64 → Int32 → Int32 → Int64 → Int64 → hb_M → Option (Int64 × hb_M)
  | 0, _, _, _, _, _, _, _ => none
  | n + 1, x0, x1, x3, x4, x6, x8, σ =>
    if (lg_cmp x8 x6) = 0 then
      some (x6, σ)
    else
      f_X9_reached_b102 (f_X9_reached_b76 n) hb_FU x0 x1 x3 x4 x6 x6 (x6 &&& (x8 ^^^ (-1 : Int64))) (0 : Int32) σ
def f_X9_reached_b54 (k6 : Nat → Int64 → Int32 → Int32 → Int32 → Int64 → Int32 → hb_M → Option (Int64 × hb_M)) (x0 : Nat) (x1 : Int64) (x3 : Int32) (x4 : Int32) (x5 : Int32) (x8 : Int32) (s0 : Int64) (s1 : Int64) (σ : hb_M) : Option (Int64 × hb_M) :=
  k6 x0 x1 x3 x4 x5 (s0 ||| s1) (x8 + (1 : Int32)) σ
def f_X9_reached_b53 (k6 : Nat → Int64 → Int32 → Int32 → Int32 → Int64 → Int32 → hb_M → Option (Int64 × hb_M)) (x0 : Nat) (x1 : Int64) (x3 : Int32) (x4 : Int32) (x5 : Int32) (x8 : Int32) (s0 : Int64) (σ : hb_M) : Option (Int64 × hb_M) :=
  f_X9_reached_b54 k6 x0 x1 x3 x4 x5 x8 s0 (0 : Int64) σ
def f_X9_reached_b6 : Nat → Nat → Int64 → Int32 → Int32 → Int32 → Int64 → Int32 → hb_M → Option (Int64 × hb_M)
  | 0, _, _, _, _, _, _, _, _ => none
  | n + 1, x0, x1, x3, x4, x5, x6, x8, σ =>
    if (40 : Int32) ≤ x8 then
      f_X9_reached_b76 hb_FU x0 x1 x3 x4 (x6 &&& (x1 ^^^ (-1 : Int64))) (0 : Int64) σ
    else
      (hb_on σ x0 9 (f_X9_isObject x0 x8 σ)).bind fun r2 =>
      if r2.1 = 0 then
        f_X9_reached_b53 (f_X9_reached_b6 n) x0 x1 x3 x4 x5 x8 x6 r2.2
      else
        (hb_getR r2.2 x0 9 0).bind fun r4 =>
        (f_X9_at x8 r2.2).bind fun r5 =>
        (hb_iald r5.2 r4 (r5.1 + (4 : Int32))).bind fun r6 =>
        if r6 = 0 then
          f_X9_reached_b53 (f_X9_reached_b6 n) x0 x1 x3 x4 x5 x8 x6 r5.2
        else
          if x8 = x5 then
            f_X9_reached_b53 (f_X9_reached_b6 n) x0 x1 x3 x4 x5 x8 x6 r5.2
          else
            f_X9_reached_b54 (f_X9_reached_b6 n) x0 x1 x3 x4 x5 x8 x6 ((1 : Int64) <<< (x8.toInt64 &&& 63)) r5.2
def f_X9_reached (x0 : Nat) (x1 : Int64) (x3 : Int32) (x4 : Int32) (x5 : Int32) (σ : hb_M) : Option (Int64 × hb_M) :=
  f_X9_reached_b6 hb_FU x0 x1 x3 x4 x5 (0 : Int64) (0 : Int32) σ
