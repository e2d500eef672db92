def f_X8_init (x0 : Nat) (σ : hb_M) : Option hb_M :=
  (hb_newO σ 4 13).bind fun r1 =>
  (f_X4_init r1.1 r1.2).bind fun r2 =>
  (hb_putR r2 x0 8 0 r1.1).bind fun r3 =>
  (hb_newO r3 0 13).bind fun r4 =>
  (hb_getR r4.2 x0 8 0).bind fun r5 =>
  (f_X0_init r4.1 r5 r4.2).bind fun r6 =>
  (hb_putR r6 x0 8 1 r4.1).bind fun r7 =>
  (hb_newO r7 5 2).bind fun r8 =>
  (f_X5_init r8.1 r8.2).bind fun r9 =>
  (hb_putR r9 x0 8 2 r8.1).bind fun r10 =>
  (hb_newO r10 7 4).bind fun r11 =>
  (f_X7_init r11.1 r11.2).bind fun r12 =>
  (hb_putR r12 x0 8 3 r11.1).bind fun r13 =>
  (hb_newO r13 3 3).bind fun r14 =>
  (hb_getR r14.2 x0 8 0).bind fun r15 =>
  (hb_getR r14.2 x0 8 1).bind fun r16 =>
  (hb_getR r14.2 x0 8 3).bind fun r17 =>
  (f_X3_init r14.1 r15 r16 r17 r14.2).bind fun r18 =>
  (hb_putR r18 x0 8 4 r14.1).bind fun r19 =>
  (hb_newO r19 1 8).bind fun r20 =>
  (hb_getR r20.2 x0 8 0).bind fun r21 =>
  (hb_getR r20.2 x0 8 1).bind fun r22 =>
  (hb_getR r20.2 x0 8 3).bind fun r23 =>
  (f_X1_init r20.1 r21 r22 r23 r20.2).bind fun r24 =>
  (hb_putR r24 x0 8 5 r20.1).bind fun r25 =>
  (hb_newO r25 2 1).bind fun r26 =>
  (f_X2_init r26.1 r26.2).bind fun r27 =>
  (hb_putR r27 x0 8 6 r26.1).bind fun r28 =>
  (hb_newA r28 3 (2 : Int32)).bind fun r29 =>
  (hb_putR r29.2 x0 8 7 r29.1).bind fun r30 =>
  (hb_getR r30 x0 8 7).bind fun r32 =>
  (hb_newO r30 4 13).bind fun r33 =>
  (f_X4_init r33.1 r33.2).bind fun r34 =>
  (hb_aast r34 r32 (0 : Int32) r33.1).bind fun r35 =>
  (hb_getR r35 x0 8 7).bind fun r37 =>
  (hb_newO r35 4 13).bind fun r38 =>
  (f_X4_init r38.1 r38.2).bind fun r39 =>
  (hb_aast r39 r37 ((0 : Int32) + (1 : Int32)) r38.1).bind fun r40 =>
  (hb_newA r40 2 (2 : Int32)).bind fun r42 =>
  (hb_putR r42.2 x0 8 8 r42.1).bind fun r43 =>
  some r43
def f_X8_defineClass (x0 : Nat) (x1 : Int32) (x2 : Int32) (x3 : Int32) (σ : hb_M) : Option ((String ⊕ Int32) × hb_M) :=
  (hb_getR σ x0 8 0).bind fun r1 =>
  (hb_on σ r1 4 (f_X4_problemOfClass r1 x1 x2 x3 σ)).bind fun r2 =>
  hb_xb (f_X8_refuse r2.1 r2.2) fun v3 r3 =>
  (hb_getR r3 x0 8 2).bind fun r4 =>
  (hb_getR r3 x0 8 0).bind fun r5 =>
  (hb_on r3 r4 5 (f_X5_save r4 r5 r3)).bind fun r6 =>
  (hb_getR r6 x0 8 0).bind fun r7 =>
  (hb_on r6 r7 4 (f_X4_addClass r7 x1 x2 x3 r6)).bind fun r8 =>
  some (.inr r8.1, r8.2)
def f_X8_classes (x0 : Nat) (σ : hb_M) : Option (Int32 × hb_M) :=
  (hb_getR σ x0 8 0).bind fun r1 =>
  (hb_getI σ r1 4 0).bind fun r2 =>
  some (r2, σ)
def f_X8_classInfo (x0 : Nat) (x1 : Int32) (x2 : Int32) (σ : hb_M) : Option ((String ⊕ Int32) × hb_M) :=
  (hb_getR σ x0 8 0).bind fun r1 =>
  (hb_on σ r1 4 (f_X4_hasClass r1 x1 σ)).bind fun r2 =>
  (f_X8_problemOf r2.1 x2 (3 : Int32) r2.2).bind fun r3 =>
  hb_xb (f_X8_refuse r3.1 r3.2) fun v4 r4 =>
  (hb_getR r4 x0 8 0).bind fun r5 =>
  (hb_on r4 r5 4 (f_X4_classFact r5 x1 x2 r4)).bind fun r6 =>
  some (.inr r6.1, r6.2)
def f_X8_refuseUnless_b9 (s0 : Int32) (σ : hb_M) : Option ((String ⊕ Unit) × hb_M) :=
  hb_xb (f_X8_refuse s0 σ) fun v1 r1 =>
  some (.inr (), r1)
def f_X8_refuseUnless (x0 : Int32) (σ : hb_M) : Option ((String ⊕ Unit) × hb_M) :=
  if x0 = 0 then
    f_X8_refuseUnless_b9 (1 : Int32) σ
  else
    f_X8_refuseUnless_b9 (0 : Int32) σ
def f_X8_isSubclass_b27 (x0 : Nat) (x1 : Int32) (x2 : Int32) (s0 : Int32) (σ : hb_M) : Option ((String ⊕ Int32) × hb_M) :=
  hb_xb (f_X8_refuseUnless s0 σ) fun v1 r1 =>
  (hb_getR r1 x0 8 0).bind fun r2 =>
  (hb_on r1 r2 4 (f_X4_isBelow r2 x1 x2 r1)).bind fun r3 =>
  if r3.1 = 0 ∨ r3.1 = 1 then some (.inr r3.1, r3.2) else none
def f_X8_isSubclass_b26 (x0 : Nat) (x1 : Int32) (x2 : Int32) (σ : hb_M) : Option ((String ⊕ Int32) × hb_M) :=
  f_X8_isSubclass_b27 x0 x1 x2 (0 : Int32) σ
def f_X8_isSubclass (x0 : Nat) (x1 : Int32) (x2 : Int32) (σ : hb_M) : Option ((String ⊕ Int32) × hb_M) :=
  (hb_getR σ x0 8 0).bind fun r1 =>
  (hb_on σ r1 4 (f_X4_hasClass r1 x1 σ)).bind fun r2 =>
  if r2.1 = 0 then
    f_X8_isSubclass_b26 x0 x1 x2 r2.2
  else
    (hb_getR r2.2 x0 8 0).bind fun r4 =>
    (hb_on r2.2 r4 4 (f_X4_hasClass r4 x2 r2.2)).bind fun r5 =>
    if r5.1 = 0 then
      f_X8_isSubclass_b26 x0 x1 x2 r5.2
    else
      f_X8_isSubclass_b27 x0 x1 x2 (1 : Int32) r5.2
def f_X8_newInstance (x0 : Nat) (x1 : Int32) (σ : hb_M) : Option ((String ⊕ Int32) × hb_M) :=
  (hb_getR σ x0 8 0).bind fun r1 =>
  (hb_on σ r1 4 (f_X4_problemOfInstance r1 x1 σ)).bind fun r2 =>
  hb_xb (f_X8_refuse r2.1 r2.2) fun v3 r3 =>
  (hb_getR r3 x0 8 2).bind fun r4 =>
  (hb_getR r3 x0 8 0).bind fun r5 =>
  (hb_on r3 r4 5 (f_X5_save r4 r5 r3)).bind fun r6 =>
  (hb_getR r6 x0 8 0).bind fun r7 =>
  (hb_on r6 r7 4 (f_X4_addInstance r7 x1 r6)).bind fun r8 =>
  some (.inr r8.1, r8.2)
def f_X8_newArray (x0 : Nat) (x1 : Int32) (σ : hb_M) : Option ((String ⊕ Int32) × hb_M) :=
  (hb_getR σ x0 8 0).bind fun r1 =>
  (hb_on σ r1 4 (f_X4_problemOfArray r1 x1 σ)).bind fun r2 =>
  hb_xb (f_X8_refuse r2.1 r2.2) fun v3 r3 =>
  (hb_getR r3 x0 8 2).bind fun r4 =>
  (hb_getR r3 x0 8 0).bind fun r5 =>
  (hb_on r3 r4 5 (f_X5_save r4 r5 r3)).bind fun r6 =>
  (hb_getR r6 x0 8 0).bind fun r7 =>
  (hb_on r6 r7 4 (f_X4_addArray r7 x1 r6)).bind fun r8 =>
  some (.inr r8.1, r8.2)
def f_X8_newHolder (x0 : Nat) (σ : hb_M) : Option ((String ⊕ Int32) × hb_M) :=
  (hb_getR σ x0 8 0).bind fun r1 =>
  (hb_on σ r1 4 (f_X4_problemOfHolder r1 σ)).bind fun r2 =>
  hb_xb (f_X8_refuse r2.1 r2.2) fun v3 r3 =>
  (hb_getR r3 x0 8 2).bind fun r4 =>
  (hb_getR r3 x0 8 0).bind fun r5 =>
  (hb_on r3 r4 5 (f_X5_save r4 r5 r3)).bind fun r6 =>
  (hb_getR r6 x0 8 0).bind fun r7 =>
  (hb_on r6 r7 4 (f_X4_addHolder r7 r6)).bind fun r8 =>
  some (.inr r8.1, r8.2)
def f_X8_set (x0 : Nat) (x1 : Int32) (x2 : Int32) (x3 : Int32) (σ : hb_M) : Option ((String ⊕ Int32) × hb_M) :=
  (hb_getR σ x0 8 0).bind fun r1 =>
  (hb_on σ r1 4 (f_X4_problemOfTarget r1 x1 x2 x3 σ)).bind fun r2 =>
  hb_xb (f_X8_refuse r2.1 r2.2) fun v3 r3 =>
  (hb_getR r3 x0 8 2).bind fun r4 =>
  (hb_getR r3 x0 8 0).bind fun r5 =>
  (hb_on r3 r4 5 (f_X5_save r4 r5 r3)).bind fun r6 =>
  (hb_getR r6 x0 8 0).bind fun r7 =>
  (hb_on r6 r7 4 (f_X4_putTarget r7 x1 x2 x3 r6)).bind fun r8 =>
  some (.inr r8.1, r8.2)
def f_X8_get (x0 : Nat) (x1 : Int32) (x2 : Int32) (σ : hb_M) : Option ((String ⊕ Int32) × hb_M) :=
  (hb_getR σ x0 8 0).bind fun r1 =>
  (hb_on σ r1 4 (f_X4_hasSlot r1 x1 x2 σ)).bind fun r2 =>
  hb_xb (f_X8_refuseUnless r2.1 r2.2) fun v3 r3 =>
  (hb_getR r3 x0 8 0).bind fun r4 =>
  (hb_on r3 r4 4 (f_X4_targetOf r4 x1 x2 r3)).bind fun r5 =>
  some (.inr r5.1, r5.2)
def f_X8_resizeArray (x0 : Nat) (x1 : Int32) (x2 : Int32) (σ : hb_M) : Option ((String ⊕ Int32) × hb_M) :=
  (hb_getR σ x0 8 0).bind fun r1 =>
  (hb_on σ r1 4 (f_X4_problemOfLength r1 x1 x2 σ)).bind fun r2 =>
  hb_xb (f_X8_refuse r2.1 r2.2) fun v3 r3 =>
  (hb_getR r3 x0 8 2).bind fun r4 =>
  (hb_getR r3 x0 8 0).bind fun r5 =>
  (hb_on r3 r4 5 (f_X5_save r4 r5 r3)).bind fun r6 =>
  (hb_getR r6 x0 8 0).bind fun r7 =>
  (hb_on r6 r7 4 (f_X4_putLength r7 x1 x2 r6)).bind fun r8 =>
  some (.inr r8.1, r8.2)
def f_X8_referent_b30 (x0 : Nat) (x1 : Int32) (s0 : Int32) (σ : hb_M) : Option ((String ⊕ Int32) × hb_M) :=
  hb_xb (f_X8_refuse s0 σ) fun v1 r1 =>
  (hb_getR r1 x0 8 0).bind fun r2 =>
  (hb_on r1 r2 4 (f_X4_targetOf r2 x1 (0 : Int32) r1)).bind fun r3 =>
  some (.inr r3.1, r3.2)
def f_X8_referent (x0 : Nat) (x1 : Int32) (σ : hb_M) : Option ((String ⊕ Int32) × hb_M) :=
  (hb_getR σ x0 8 0).bind fun r1 =>
  (hb_on σ r1 4 (f_X4_hasObject r1 x1 σ)).bind fun r2 =>
  hb_xb (f_X8_refuseUnless r2.1 r2.2) fun v3 r3 =>
  (hb_getR r3 x0 8 0).bind fun r4 =>
  (hb_getR r3 r4 4 4).bind fun r5 =>
  (hb_iald r3 r5 x1).bind fun r6 =>
  if r6 = (11 : Int32) then
    f_X8_referent_b30 x0 x1 (0 : Int32) r3
  else
    f_X8_referent_b30 x0 x1 (3 : Int32) r3
def f_X8_addRoot (x0 : Nat) (x1 : Int32) (x2 : Int32) (σ : hb_M) : Option ((String ⊕ Int32) × hb_M) :=
  (hb_getR σ x0 8 0).bind fun r1 =>
  (hb_on σ r1 4 (f_X4_problemOfRoot r1 x1 x2 σ)).bind fun r2 =>
  hb_xb (f_X8_refuse r2.1 r2.2) fun v3 r3 =>
  (hb_getR r3 x0 8 2).bind fun r4 =>
  (hb_getR r3 x0 8 0).bind fun r5 =>
  (hb_on r3 r4 5 (f_X5_save r4 r5 r3)).bind fun r6 =>
  (hb_getR r6 x0 8 0).bind fun r7 =>
  (hb_getR r6 x0 8 0).bind fun r8 =>
  (hb_getR r6 r8 4 9).bind fun r9 =>
  (hb_iald r6 r9 x1).bind fun r10 =>
  (hb_on r6 r7 4 (f_X4_putRoots r7 x1 (r10 ||| ((1 : Int32) <<< (x2 &&& 31))) r6)).bind fun r11 =>
  some (.inr r11.1, r11.2)
def f_X8_removeRoot (x0 : Nat) (x1 : Int32) (x2 : Int32) (σ : hb_M) : Option ((String ⊕ Int32) × hb_M) :=
  (hb_getR σ x0 8 0).bind fun r1 =>
  (hb_on σ r1 4 (f_X4_problemOfUnrooting r1 x1 x2 σ)).bind fun r2 =>
  hb_xb (f_X8_refuse r2.1 r2.2) fun v3 r3 =>
  (hb_getR r3 x0 8 2).bind fun r4 =>
  (hb_getR r3 x0 8 0).bind fun r5 =>
  (hb_on r3 r4 5 (f_X5_save r4 r5 r3)).bind fun r6 =>
  (hb_getR r6 x0 8 0).bind fun r7 =>
  (hb_getR r6 x0 8 0).bind fun r8 =>
  (hb_getR r6 r8 4 9).bind fun r9 =>
  (hb_iald r6 r9 x1).bind fun r10 =>
  (hb_on r6 r7 4 (f_X4_putRoots r7 x1 (r10 &&& (((1 : Int32) <<< (x2 &&& 31)) ^^^ (-1 : Int32))) r6)).bind fun r11 =>
  some (.inr r11.1, r11.2)
def f_X8_collect (x0 : Nat) (σ : hb_M) : Option (Int32 × hb_M) :=
  (hb_getR σ x0 8 2).bind fun r1 =>
  (hb_getR σ x0 8 0).bind fun r2 =>
  (hb_on σ r1 5 (f_X5_save r1 r2 σ)).bind fun r3 =>
  (hb_getR r3 x0 8 1).bind fun r4 =>
  (hb_on r3 r4 0 (f_X0_removeGarbage r4 r3)).bind fun r5 =>
  some (r5.1, r5.2)
def f_X8_objects (x0 : Nat) (σ : hb_M) : Option (Int32 × hb_M) :=
  (hb_getR σ x0 8 0).bind fun r1 =>
  (hb_on σ r1 4 (f_X4_objectCount r1 σ)).bind fun r2 =>
  some (r2.1, r2.2)
def f_X8_exists (x0 : Nat) (x1 : Int32) (σ : hb_M) : Option (Int32 × hb_M) :=
  (hb_getR σ x0 8 0).bind fun r1 =>
  (hb_on σ r1 4 (f_X4_hasObject r1 x1 σ)).bind fun r2 =>
  hb_zr r2.1 r2.2
def f_X8_objectInfo (x0 : Nat) (x1 : Int32) (x2 : Int32) (σ : hb_M) : Option ((String ⊕ Int32) × hb_M) :=
  (hb_getR σ x0 8 0).bind fun r1 =>
  (hb_on σ r1 4 (f_X4_hasObject r1 x1 σ)).bind fun r2 =>
  (f_X8_problemOf r2.1 x2 (7 : Int32) r2.2).bind fun r3 =>
  hb_xb (f_X8_refuse r3.1 r3.2) fun v4 r4 =>
  (hb_getR r4 x0 8 1).bind fun r5 =>
  (hb_on r4 r5 0 (f_X0_refresh r5 r4)).bind fun r6 =>
  if x2 = (6 : Int32) then
    (hb_getR r6 x0 8 1).bind fun r8 =>
    (hb_getR r6 r8 0 8).bind fun r9 =>
    (hb_iald r6 r9 x1).bind fun r10 =>
    some (.inr r10, r6)
  else if x2 = (7 : Int32) then
    (hb_getR r6 x0 8 1).bind fun r12 =>
    (hb_getR r6 r12 0 7).bind fun r13 =>
    (hb_iald r6 r13 x1).bind fun r14 =>
    some (.inr r14, r6)
  else 
    (hb_getR r6 x0 8 0).bind fun r15 =>
    (hb_on r6 r15 4 (f_X4_objectFact r15 x1 x2 r6)).bind fun r16 =>
    some (.inr r16.1, r16.2)
def f_X8_populate_b66 : Nat → Nat → Int32 → Int32 → hb_M → Option ((String ⊕ Int32) × hb_M)
  | 0, _, _, _, _ => none
  | n + 1, x0, x2, x3, σ =>
    if x2 ≤ x3 then
      (hb_getR σ x0 8 0).bind fun r2 =>
      (hb_on σ r2 4 (f_X4_objectCount r2 σ)).bind fun r3 =>
      some (.inr r3.1, r3.2)
    else
      (hb_getR σ x0 8 6).bind fun r4 =>
      (hb_getR σ x0 8 0).bind fun r5 =>
      (hb_on σ r4 2 (f_X2_addTo r4 r5 σ)).bind fun r6 =>
      f_X8_populate_b66 n x0 x2 (x3 + (1 : Int32)) r6
def f_X8_populate_b42 (x0 : Nat) (x1 : Int32) (x2 : Int32) (s0 : Int32) (σ : hb_M) : Option ((String ⊕ Int32) × hb_M) :=
  hb_xb (f_X8_refuse s0 σ) fun v1 r1 =>
  (hb_getR r1 x0 8 2).bind fun r2 =>
  (hb_getR r1 x0 8 0).bind fun r3 =>
  (hb_on r1 r2 5 (f_X5_save r2 r3 r1)).bind fun r4 =>
  (hb_getR r4 x0 8 6).bind fun r5 =>
  (hb_on r4 r5 2 (f_X2_begin r5 x1 r4)).bind fun r6 =>
  f_X8_populate_b66 hb_FU x0 x2 (0 : Int32) r6
def f_X8_populate_b20 (x0 : Nat) (x1 : Int32) (x2 : Int32) (s0 : Int32) (σ : hb_M) : Option ((String ⊕ Int32) × hb_M) :=
  hb_xb (f_X8_refuse s0 σ) fun v1 r1 =>
  (hb_getR r1 x0 8 0).bind fun r2 =>
  (hb_on r1 r2 4 (f_X4_objectCount r2 r1)).bind fun r3 =>
  if (40 : Int32) < (r3.1 + x2) then
    f_X8_populate_b42 x0 x1 x2 (3 : Int32) r3.2
  else
    f_X8_populate_b42 x0 x1 x2 (0 : Int32) r3.2
def f_X8_populate_b19 (x0 : Nat) (x1 : Int32) (x2 : Int32) (σ : hb_M) : Option ((String ⊕ Int32) × hb_M) :=
  f_X8_populate_b20 x0 x1 x2 (2 : Int32) σ
def f_X8_populate (x0 : Nat) (x1 : Int32) (x2 : Int32) (σ : hb_M) : Option ((String ⊕ Int32) × hb_M) :=
  if x1 < 0 then
    f_X8_populate_b19 x0 x1 x2 σ
  else
    if x2 < (1 : Int32) then
      f_X8_populate_b19 x0 x1 x2 σ
    else
      if (40 : Int32) < x2 then
        f_X8_populate_b19 x0 x1 x2 σ
      else
        f_X8_populate_b20 x0 x1 x2 (0 : Int32) σ
def f_X8_distance (x0 : Nat) (x1 : Int32) (σ : hb_M) : Option ((String ⊕ Int32) × hb_M) :=
  (hb_getR σ x0 8 0).bind fun r1 =>
  (hb_on σ r1 4 (f_X4_hasObject r1 x1 σ)).bind fun r2 =>
  hb_xb (f_X8_refuseUnless r2.1 r2.2) fun v3 r3 =>
  (hb_getR r3 x0 8 1).bind fun r4 =>
  (hb_on r3 r4 0 (f_X0_refresh r4 r3)).bind fun r5 =>
  (hb_getR r5 x0 8 1).bind fun r6 =>
  (hb_getR r5 r6 0 1).bind fun r7 =>
  (hb_getR r5 r7 6 1).bind fun r8 =>
  (hb_iald r5 r8 x1).bind fun r9 =>
  some (.inr r9, r5)
def f_X8_pathAt (x0 : Nat) (x1 : Int32) (x2 : Int32) (σ : hb_M) : Option ((String ⊕ Int32) × hb_M) :=
  (hb_getR σ x0 8 0).bind fun r1 =>
  (hb_on σ r1 4 (f_X4_hasObject r1 x1 σ)).bind fun r2 =>
  hb_xb (f_X8_refuseUnless r2.1 r2.2) fun v3 r3 =>
  (hb_getR r3 x0 8 1).bind fun r4 =>
  (hb_on r3 r4 0 (f_X0_refresh r4 r3)).bind fun r5 =>
  (hb_getR r5 x0 8 1).bind fun r6 =>
  (hb_getR r5 r6 0 1).bind fun r7 =>
  (hb_on r5 r7 6 (f_X6_pathObject r7 x1 x2 r5)).bind fun r8 =>
  some (.inr r8.1, r8.2)
def f_X8_dominates_b27 (x0 : Nat) (x1 : Int32) (x2 : Int32) (s0 : Int32) (σ : hb_M) : Option ((String ⊕ Int32) × hb_M) :=
  hb_xb (f_X8_refuseUnless s0 σ) fun v1 r1 =>
  (hb_getR r1 x0 8 1).bind fun r2 =>
  (hb_on r1 r2 0 (f_X0_refresh r2 r1)).bind fun r3 =>
  (hb_getR r3 x0 8 1).bind fun r4 =>
  (hb_getR r3 r4 0 4).bind fun r5 =>
  (hb_lald r3 r5 x2).bind fun r6 =>
  (f_X8_contains r6 x1 r3).bind fun r7 =>
  if r7.1 = 0 ∨ r7.1 = 1 then some (.inr r7.1, r7.2) else none
def f_X8_dominates_b26 (x0 : Nat) (x1 : Int32) (x2 : Int32) (σ : hb_M) : Option ((String ⊕ Int32) × hb_M) :=
  f_X8_dominates_b27 x0 x1 x2 (0 : Int32) σ
def f_X8_dominates (x0 : Nat) (x1 : Int32) (x2 : Int32) (σ : hb_M) : Option ((String ⊕ Int32) × hb_M) :=
  (hb_getR σ x0 8 0).bind fun r1 =>
  (hb_on σ r1 4 (f_X4_hasObject r1 x1 σ)).bind fun r2 =>
  if r2.1 = 0 then
    f_X8_dominates_b26 x0 x1 x2 r2.2
  else
    (hb_getR r2.2 x0 8 0).bind fun r4 =>
    (hb_on r2.2 r4 4 (f_X4_hasObject r4 x2 r2.2)).bind fun r5 =>
    if r5.1 = 0 then
      f_X8_dominates_b26 x0 x1 x2 r5.2
    else
      f_X8_dominates_b27 x0 x1 x2 (1 : Int32) r5.2
def f_X8_dominator (x0 : Nat) (x1 : Int32) (σ : hb_M) : Option ((String ⊕ Int32) × hb_M) :=
  (hb_getR σ x0 8 0).bind fun r1 =>
  (hb_on σ r1 4 (f_X4_hasObject r1 x1 σ)).bind fun r2 =>
  hb_xb (f_X8_refuseUnless r2.1 r2.2) fun v3 r3 =>
  (hb_getR r3 x0 8 1).bind fun r4 =>
  (hb_on r3 r4 0 (f_X0_refresh r4 r3)).bind fun r5 =>
  (hb_getR r5 x0 8 1).bind fun r6 =>
  (hb_getR r5 r6 0 5).bind fun r7 =>
  (hb_iald r5 r7 x1).bind fun r8 =>
  some (.inr r8, r5)
def f_X8_depth (x0 : Nat) (x1 : Int32) (σ : hb_M) : Option ((String ⊕ Int32) × hb_M) :=
  (hb_getR σ x0 8 0).bind fun r1 =>
  (hb_on σ r1 4 (f_X4_hasObject r1 x1 σ)).bind fun r2 =>
  hb_xb (f_X8_refuseUnless r2.1 r2.2) fun v3 r3 =>
  (hb_getR r3 x0 8 1).bind fun r4 =>
  (hb_on r3 r4 0 (f_X0_refresh r4 r3)).bind fun r5 =>
  (hb_getR r5 x0 8 1).bind fun r6 =>
  (hb_getR r5 r6 0 4).bind fun r7 =>
  (hb_lald r5 r7 x1).bind fun r8 =>
  (f_J13_bitCount_95d88 r8 r5).bind fun r9 =>
  some (.inr (r9.1 - (1 : Int32)), r9.2)
def f_X8_dominatedAt_b21 (x0 : Nat) (x1 : Int32) (x2 : Int32) (s0 : Int32) (σ : hb_M) : Option ((String ⊕ Int32) × hb_M) :=
  hb_xb (f_X8_refuseUnless s0 σ) fun v1 r1 =>
  (hb_getR r1 x0 8 1).bind fun r2 =>
  (hb_on r1 r2 0 (f_X0_refresh r2 r1)).bind fun r3 =>
  (hb_getR r3 x0 8 1).bind fun r4 =>
  (hb_on r3 r4 0 (f_X0_children r4 x1 r3)).bind fun r5 =>
  (f_X8_memberAt r5.1 x2 r5.2).bind fun r6 =>
  some (.inr r6.1, r6.2)
def f_X8_dominatedAt_b16 (x0 : Nat) (x1 : Int32) (x2 : Int32) (σ : hb_M) : Option ((String ⊕ Int32) × hb_M) :=
  f_X8_dominatedAt_b21 x0 x1 x2 (1 : Int32) σ
def f_X8_dominatedAt (x0 : Nat) (x1 : Int32) (x2 : Int32) (σ : hb_M) : Option ((String ⊕ Int32) × hb_M) :=
  if x1 = (-1 : Int32) then
    f_X8_dominatedAt_b16 x0 x1 x2 σ
  else
    (hb_getR σ x0 8 0).bind fun r2 =>
    (hb_on σ r2 4 (f_X4_hasObject r2 x1 σ)).bind fun r3 =>
    if r3.1 = 0 then
      f_X8_dominatedAt_b21 x0 x1 x2 (0 : Int32) r3.2
    else
      f_X8_dominatedAt_b16 x0 x1 x2 r3.2
def f_X8_retainedSize (x0 : Nat) (x1 : Int32) (σ : hb_M) : Option ((String ⊕ Int32) × hb_M) :=
  (hb_getR σ x0 8 0).bind fun r1 =>
  (hb_on σ r1 4 (f_X4_hasObject r1 x1 σ)).bind fun r2 =>
  hb_xb (f_X8_refuseUnless r2.1 r2.2) fun v3 r3 =>
  (hb_getR r3 x0 8 1).bind fun r4 =>
  (hb_on r3 r4 0 (f_X0_refresh r4 r3)).bind fun r5 =>
  (hb_getR r5 x0 8 1).bind fun r6 =>
  (hb_getR r5 r6 0 6).bind fun r7 =>
  (hb_iald r5 r7 x1).bind fun r8 =>
  some (.inr r8, r5)
def f_X8_retainedObjects (x0 : Nat) (x1 : Int32) (σ : hb_M) : Option ((String ⊕ Int32) × hb_M) :=
  (hb_getR σ x0 8 0).bind fun r1 =>
  (hb_on σ r1 4 (f_X4_hasObject r1 x1 σ)).bind fun r2 =>
  hb_xb (f_X8_refuseUnless r2.1 r2.2) fun v3 r3 =>
  (hb_getR r3 x0 8 1).bind fun r4 =>
  (hb_on r3 r4 0 (f_X0_refresh r4 r3)).bind fun r5 =>
  (hb_getR r5 x0 8 1).bind fun r6 =>
  (hb_on r5 r6 0 (f_X0_dominatedBy r6 x1 r5)).bind fun r7 =>
  (f_J13_bitCount_95d88 r7.1 r7.2).bind fun r8 =>
  some (.inr r8.1, r8.2)
def f_X8_component (x0 : Nat) (x1 : Int32) (σ : hb_M) : Option ((String ⊕ Int32) × hb_M) :=
  (hb_getR σ x0 8 0).bind fun r1 =>
  (hb_on σ r1 4 (f_X4_hasObject r1 x1 σ)).bind fun r2 =>
  hb_xb (f_X8_refuseUnless r2.1 r2.2) fun v3 r3 =>
  (hb_getR r3 x0 8 1).bind fun r4 =>
  (hb_on r3 r4 0 (f_X0_refresh r4 r3)).bind fun r5 =>
  (hb_getR r5 x0 8 1).bind fun r6 =>
  (hb_getR r5 r6 0 10).bind fun r7 =>
  (hb_iald r5 r7 x1).bind fun r8 =>
  some (.inr r8, r5)
def f_X8_componentSize (x0 : Nat) (x1 : Int32) (σ : hb_M) : Option ((String ⊕ Int32) × hb_M) :=
  (hb_getR σ x0 8 0).bind fun r1 =>
  (hb_on σ r1 4 (f_X4_hasObject r1 x1 σ)).bind fun r2 =>
  hb_xb (f_X8_refuseUnless r2.1 r2.2) fun v3 r3 =>
  (hb_getR r3 x0 8 1).bind fun r4 =>
  (hb_on r3 r4 0 (f_X0_refresh r4 r3)).bind fun r5 =>
  (hb_getR r5 x0 8 1).bind fun r6 =>
  (hb_on r5 r6 0 (f_X0_sizeOfComponent r6 x1 r5)).bind fun r7 =>
  some (.inr r7.1, r7.2)
def f_X8_freedByClearing (x0 : Nat) (x1 : Int32) (x2 : Int32) (σ : hb_M) : Option ((String ⊕ Int32) × hb_M) :=
  (hb_getR σ x0 8 0).bind fun r1 =>
  (hb_on σ r1 4 (f_X4_hasSlot r1 x1 x2 σ)).bind fun r2 =>
  hb_xb (f_X8_refuseUnless r2.1 r2.2) fun v3 r3 =>
  (hb_getR r3 x0 8 1).bind fun r4 =>
  (hb_on r3 r4 0 (f_X0_refresh r4 r3)).bind fun r5 =>
  (hb_getR r5 x0 8 1).bind fun r6 =>
  (hb_on r5 r6 0 (f_X0_lostWithoutSlot r6 x1 x2 r5)).bind fun r7 =>
  some (.inr r7.1, r7.2)
def f_X8_freedByUnrooting (x0 : Nat) (x1 : Int32) (σ : hb_M) : Option ((String ⊕ Int32) × hb_M) :=
  (hb_getR σ x0 8 0).bind fun r1 =>
  (hb_on σ r1 4 (f_X4_hasObject r1 x1 σ)).bind fun r2 =>
  hb_xb (f_X8_refuseUnless r2.1 r2.2) fun v3 r3 =>
  (hb_getR r3 x0 8 1).bind fun r4 =>
  (hb_on r3 r4 0 (f_X0_refresh r4 r3)).bind fun r5 =>
  (hb_getR r5 x0 8 1).bind fun r6 =>
  (hb_on r5 r6 0 (f_X0_lostWithoutRoot r6 x1 r5)).bind fun r7 =>
  some (.inr r7.1, r7.2)
def f_X8_group (x0 : Nat) (x1 : Int32) (x2 : Int32) (x3 : Int32) (σ : hb_M) : Option ((String ⊕ Int32) × hb_M) :=
  (hb_getR σ x0 8 0).bind fun r1 =>
  (hb_on σ r1 4 (f_X4_hasGroup r1 x1 σ)).bind fun r2 =>
  (f_X8_problemOf r2.1 x2 (3 : Int32) r2.2).bind fun r3 =>
  hb_xb (f_X8_refuse r3.1 r3.2) fun v4 r4 =>
  (hb_getR r4 x0 8 1).bind fun r5 =>
  (hb_on r4 r5 0 (f_X0_refresh r5 r4)).bind fun r6 =>
  (hb_getR r6 x0 8 0).bind fun r7 =>
  (hb_on r6 r7 4 (f_X4_membersOf r7 x1 x3 r6)).bind fun r8 =>
  if x2 = (0 : Int32) then
    (f_J13_bitCount_95d88 r8.1 r8.2).bind fun r10 =>
    some (.inr r10.1, r10.2)
  else if x2 = (1 : Int32) then
    (hb_getR r8.2 x0 8 1).bind fun r12 =>
    (hb_getR r8.2 r12 0 1).bind fun r13 =>
    (hb_getL r8.2 r13 6 4).bind fun r14 =>
    (f_J13_bitCount_95d88 (r8.1 &&& r14) r8.2).bind fun r15 =>
    some (.inr r15.1, r15.2)
  else if x2 = (2 : Int32) then
    (hb_getR r8.2 x0 8 0).bind fun r17 =>
    (hb_on r8.2 r17 4 (f_X4_sizeOfAll r17 r8.1 r8.2)).bind fun r18 =>
    some (.inr r18.1, r18.2)
  else 
    (hb_getR r8.2 x0 8 1).bind fun r19 =>
    (hb_on r8.2 r19 0 (f_X0_lostWithout r19 r8.1 r8.2)).bind fun r20 =>
    some (.inr r20.1, r20.2)
def f_X8_quotientBits_b199 (x4 : Int32) (x10 : Int32) (x11 : Int64) (s0 : Int32) (σ : hb_M) : Option (Int64 × hb_M) :=
  if s0 = 0 then
    some ((((x10.toInt64 <<< (x4.toInt64 &&& 63)) + x11) + (0 : Int32).toInt64), σ)
  else
    some ((((x10.toInt64 <<< (x4.toInt64 &&& 63)) + x11) + (1 : Int32).toInt64), σ)
def f_X8_quotientBits_b194 (x4 : Int32) (x10 : Int32) (x11 : Int64) (σ : hb_M) : Option (Int64 × hb_M) :=
  f_X8_quotientBits_b199 x4 x10 x11 (1 : Int32) σ
def f_X8_quotientBits_b198 (x4 : Int32) (x10 : Int32) (x11 : Int64) (σ : hb_M) : Option (Int64 × hb_M) :=
  f_X8_quotientBits_b199 x4 x10 x11 (0 : Int32) σ
def f_X8_quotientBits_b155 (k111 : Int32 → Int64 → Int64 → Int32 → Int64 → Int32 → hb_M → Option (Int64 × hb_M)) (x4 : Int32) (x6 : Int64) (x8 : Int64) (x10 : Int32) (x11 : Int64) (x13 : Int32) (σ : hb_M) : Option (Int64 × hb_M) :=
  k111 x4 x6 x8 x10 x11 (x13 + (1 : Int32)) σ
def f_X8_quotientBits_b111 : Nat → Int32 → Int64 → Int64 → Int32 → Int64 → Int32 → hb_M → Option (Int64 × hb_M)
  | 0, _, _, _, _, _, _, _ => none
  | n + 1, x4, x6, x8, x10, x11, x13, σ =>
    if x4 ≤ x13 then
      if 0 < (lg_cmp ((2 : Int64) * x6) x8) then
        f_X8_quotientBits_b194 x4 x10 x11 σ
      else
        if (lg_cmp ((2 : Int64) * x6) x8) = 0 then
          if (lg_cmp (x11 &&& (1 : Int64)) (1 : Int64)) = 0 then
            f_X8_quotientBits_b194 x4 x10 x11 σ
          else
            f_X8_quotientBits_b198 x4 x10 x11 σ
        else
          f_X8_quotientBits_b198 x4 x10 x11 σ
    else
      if (lg_cmp (x6 * (2 : Int64)) x8) < 0 then
        f_X8_quotientBits_b155 (f_X8_quotientBits_b111 n) x4 (x6 * (2 : Int64)) x8 x10 (x11 * (2 : Int64)) x13 σ
      else
        f_X8_quotientBits_b155 (f_X8_quotientBits_b111 n) x4 ((x6 * (2 : Int64)) - x8) x8 x10 ((x11 * (2 : Int64)) + (1 : Int64)) x13 σ
def f_X8_quotientBits_b98 (x4 : Int32) (x6 : Int64) (x8 : Int64) (x10 : Int32) (σ : hb_M) : Option (Int64 × hb_M) :=
  f_X8_quotientBits_b111 hb_FU x4 (x6 - x8) x8 x10 (0 : Int64) (0 : Int32) σ
def f_X8_quotientBits_b66 : Nat → Int32 → Int64 → Int64 → Int32 → Int32 → hb_M → Option (Int64 × hb_M)
  | 0, _, _, _, _, _, _ => none
  | n + 1, x4, x6, x8, x10, x11, σ =>
    if (32 : Int32) ≤ x11 then
      f_X8_quotientBits_b98 x4 x6 x8 x10 σ
    else
      if 0 ≤ (lg_cmp x6 x8) then
        f_X8_quotientBits_b98 x4 x6 x8 x10 σ
      else
        f_X8_quotientBits_b66 n x4 (x6 * (2 : Int64)) x8 (x10 + (-1 : Int32)) (x11 + (1 : Int32)) σ
def f_X8_quotientBits_b63 (x4 : Int32) (x6 : Int64) (x8 : Int64) (x10 : Int32) (σ : hb_M) : Option (Int64 × hb_M) :=
  f_X8_quotientBits_b66 hb_FU x4 x6 x8 x10 (0 : Int32) σ
def f_X8_quotientBits_b27 : Nat → Int32 → Int64 → Int64 → Int32 → Int32 → hb_M → Option (Int64 × hb_M)
  | 0, _, _, _, _, _, _ => none
  | n + 1, x4, x6, x8, x10, x11, σ =>
    if (32 : Int32) ≤ x11 then
      f_X8_quotientBits_b63 x4 x6 x8 x10 σ
    else
      if (lg_cmp x6 ((2 : Int64) * x8)) < 0 then
        f_X8_quotientBits_b63 x4 x6 x8 x10 σ
      else
        f_X8_quotientBits_b27 n x4 x6 (x8 * (2 : Int64)) (x10 + (1 : Int32)) (x11 + (1 : Int32)) σ
def f_X8_quotientBits (x0 : Int64) (x2 : Int64) (x4 : Int32) (x5 : Int32) (σ : hb_M) : Option (Int64 × hb_M) :=
  if (lg_cmp x0 (0 : Int64)) ≤ 0 then
    some ((0 : Int64), σ)
  else
    if 0 < (lg_cmp x2 (0 : Int64)) then
      f_X8_quotientBits_b27 hb_FU x4 x0 x2 x5 (0 : Int32) σ
    else
      some ((0 : Int64), σ)
def f_X8_meanRetainedBits_b77 (k45 : Nat → Int64 → Int32 → Int32 → hb_M → Option ((String ⊕ Int64) × hb_M)) (x0 : Nat) (x2 : Int64) (x5 : Int32) (s0 : Int32) (s1 : Int32) (σ : hb_M) : Option ((String ⊕ Int64) × hb_M) :=
  k45 x0 x2 (s0 + s1) (x5 + (1 : Int32)) σ
def f_X8_meanRetainedBits_b45 : Nat → Nat → Int64 → Int32 → Int32 → hb_M → Option ((String ⊕ Int64) × hb_M)
  | 0, _, _, _, _, _ => none
  | n + 1, x0, x2, x4, x5, σ =>
    if (40 : Int32) ≤ x5 then
      (f_J13_bitCount_95d88 x2 σ).bind fun r2 =>
      (f_X8_quotientBits x4.toInt64 r2.1.toInt64 (52 : Int32) (1023 : Int32) r2.2).bind fun r3 =>
      some (.inr r3.1, r3.2)
    else
      (f_X8_contains x2 x5 σ).bind fun r4 =>
      if r4.1 = 0 then
        f_X8_meanRetainedBits_b77 (f_X8_meanRetainedBits_b45 n) x0 x2 x5 x4 (0 : Int32) r4.2
      else
        (hb_getR r4.2 x0 8 1).bind fun r6 =>
        (hb_getR r4.2 r6 0 6).bind fun r7 =>
        (hb_iald r4.2 r7 x5).bind fun r8 =>
        f_X8_meanRetainedBits_b77 (f_X8_meanRetainedBits_b45 n) x0 x2 x5 x4 r8 r4.2
def f_X8_meanRetainedBits (x0 : Nat) (x1 : Int32) (σ : hb_M) : Option ((String ⊕ Int64) × hb_M) :=
  (hb_getR σ x0 8 0).bind fun r1 =>
  (hb_on σ r1 4 (f_X4_hasGroup r1 x1 σ)).bind fun r2 =>
  hb_xb (f_X8_refuseUnless r2.1 r2.2) fun v3 r3 =>
  (hb_getR r3 x0 8 1).bind fun r4 =>
  (hb_on r3 r4 0 (f_X0_refresh r4 r3)).bind fun r5 =>
  (hb_getR r5 x0 8 0).bind fun r6 =>
  (hb_on r5 r6 4 (f_X4_membersOf r6 x1 (0 : Int32) r5)).bind fun r7 =>
  (hb_getR r7.2 x0 8 1).bind fun r8 =>
  (hb_getR r7.2 r8 0 1).bind fun r9 =>
  (hb_getL r7.2 r9 6 4).bind fun r10 =>
  f_X8_meanRetainedBits_b45 hb_FU x0 (r7.1 &&& r10) (0 : Int32) (0 : Int32) r7.2
def f_X8_shareBits (x0 : Nat) (x1 : Int32) (σ : hb_M) : Option ((String ⊕ Int32) × hb_M) :=
  (hb_getR σ x0 8 0).bind fun r1 =>
  (hb_on σ r1 4 (f_X4_hasObject r1 x1 σ)).bind fun r2 =>
  hb_xb (f_X8_refuseUnless r2.1 r2.2) fun v3 r3 =>
  (hb_getR r3 x0 8 1).bind fun r4 =>
  (hb_on r3 r4 0 (f_X0_refresh r4 r3)).bind fun r5 =>
  (hb_getR r5 x0 8 1).bind fun r6 =>
  (hb_getR r5 r6 0 6).bind fun r7 =>
  (hb_iald r5 r7 x1).bind fun r8 =>
  (hb_getR r5 x0 8 1).bind fun r9 =>
  (hb_getI r5 r9 0 11).bind fun r10 =>
  (f_X8_quotientBits r8.toInt64 r10.toInt64 (23 : Int32) (127 : Int32) r5).bind fun r11 =>
  some (.inr r11.1.toInt32, r11.2)
def f_X8_isPercent (x0 : Int32) (σ : hb_M) : Option (Int32 × hb_M) :=
  if x0 < (1 : Int32) then
    some ((0 : Int32), σ)
  else
    if (100 : Int32) < x0 then
      some ((0 : Int32), σ)
    else
      some ((1 : Int32), σ)
def f_X8_suspectAt_b51 : Nat → Nat → Int32 → Int64 → Int32 → Int32 → hb_M → Option ((String ⊕ Int32) × hb_M)
  | 0, _, _, _, _, _, _ => none
  | n + 1, x0, x2, x3, x5, x6, σ =>
    if x2 < x6 then
      some (.inr x5, σ)
    else
      (hb_getR σ x0 8 1).bind fun r2 =>
      (hb_on σ r2 0 (f_X0_greatest r2 x3 σ)).bind fun r3 =>
      (f_X8_member r3.1 r3.2).bind fun r4 =>
      f_X8_suspectAt_b51 n x0 x2 (x3 &&& (r4.1 ^^^ (-1 : Int64))) r3.1 (x6 + (1 : Int32)) r4.2
def f_X8_suspectAt_b12 (x0 : Nat) (x1 : Int32) (x2 : Int32) (s0 : Int32) (σ : hb_M) : Option ((String ⊕ Int32) × hb_M) :=
  hb_xb (f_X8_refuse s0 σ) fun v1 r1 =>
  (hb_getR r1 x0 8 1).bind fun r2 =>
  (hb_on r1 r2 0 (f_X0_refresh r2 r1)).bind fun r3 =>
  (hb_getR r3 x0 8 1).bind fun r4 =>
  (hb_on r3 r4 0 (f_X0_suspects r4 x1 r3)).bind fun r5 =>
  if x2 < 0 then
    some (.inr (-1 : Int32), r5.2)
  else
    (f_J13_bitCount_95d88 r5.1 r5.2).bind fun r7 =>
    if x2 < r7.1 then
      f_X8_suspectAt_b51 hb_FU x0 x2 r5.1 (-1 : Int32) (0 : Int32) r7.2
    else
      some (.inr (-1 : Int32), r7.2)
def f_X8_suspectAt (x0 : Nat) (x1 : Int32) (x2 : Int32) (σ : hb_M) : Option ((String ⊕ Int32) × hb_M) :=
  (f_X8_isPercent x1 σ).bind fun r1 =>
  if r1.1 = 0 then
    f_X8_suspectAt_b12 x0 x1 x2 (2 : Int32) r1.2
  else
    f_X8_suspectAt_b12 x0 x1 x2 (0 : Int32) r1.2
def f_X8_accumulationPoint_b55 (x0 : Nat) (x1 : Int32) (x2 : Int32) (s0 : Int32) (σ : hb_M) : Option ((String ⊕ Int32) × hb_M) :=
  hb_xb (f_X8_refuse s0 σ) fun v1 r1 =>
  (hb_getR r1 x0 8 1).bind fun r2 =>
  (hb_on r1 r2 0 (f_X0_accumulationFrom r2 x1 x2 r1)).bind fun r3 =>
  some (.inr r3.1, r3.2)
def f_X8_accumulationPoint_b23 (x0 : Nat) (x1 : Int32) (x2 : Int32) (s0 : Int32) (σ : hb_M) : Option ((String ⊕ Int32) × hb_M) :=
  hb_xb (f_X8_refuse s0 σ) fun v1 r1 =>
  (hb_getR r1 x0 8 1).bind fun r2 =>
  (hb_on r1 r2 0 (f_X0_refresh r2 r1)).bind fun r3 =>
  (hb_getR r3 x0 8 1).bind fun r4 =>
  (hb_getR r3 r4 0 1).bind fun r5 =>
  (hb_getL r3 r5 6 4).bind fun r6 =>
  (f_X8_contains r6 x1 r3).bind fun r7 =>
  if r7.1 = 0 then
    f_X8_accumulationPoint_b55 x0 x1 x2 (3 : Int32) r7.2
  else
    f_X8_accumulationPoint_b55 x0 x1 x2 (0 : Int32) r7.2
def f_X8_accumulationPoint (x0 : Nat) (x1 : Int32) (x2 : Int32) (σ : hb_M) : Option ((String ⊕ Int32) × hb_M) :=
  (hb_getR σ x0 8 0).bind fun r1 =>
  (hb_on σ r1 4 (f_X4_hasObject r1 x1 σ)).bind fun r2 =>
  hb_xb (f_X8_refuseUnless r2.1 r2.2) fun v3 r3 =>
  (f_X8_isPercent x2 r3).bind fun r4 =>
  if r4.1 = 0 then
    f_X8_accumulationPoint_b23 x0 x1 x2 (2 : Int32) r4.2
  else
    f_X8_accumulationPoint_b23 x0 x1 x2 (0 : Int32) r4.2
def f_X8_append_b35 (x0 : Nat) (x1 : Int32) (s0 : Int32) (σ : hb_M) : Option ((String ⊕ Int32) × hb_M) :=
  hb_xb (f_X8_refuse s0 σ) fun v1 r1 =>
  (hb_getR r1 x0 8 3).bind fun r2 =>
  (hb_on r1 r2 7 (f_X7_add r2 x1 r1)).bind fun r3 =>
  (hb_getR r3 x0 8 3).bind fun r4 =>
  (hb_getI r3 r4 7 1).bind fun r5 =>
  some (.inr r5, r3)
def f_X8_append_b15 (x0 : Nat) (x1 : Int32) (s0 : Int32) (σ : hb_M) : Option ((String ⊕ Int32) × hb_M) :=
  hb_xb (f_X8_refuse s0 σ) fun v1 r1 =>
  (hb_getR r1 x0 8 3).bind fun r2 =>
  (hb_getI r1 r2 7 1).bind fun r3 =>
  if (100 : Int32) ≤ r3 then
    f_X8_append_b35 x0 x1 (3 : Int32) r1
  else
    f_X8_append_b35 x0 x1 (0 : Int32) r1
def f_X8_append_b14 (x0 : Nat) (x1 : Int32) (σ : hb_M) : Option ((String ⊕ Int32) × hb_M) :=
  f_X8_append_b15 x0 x1 (2 : Int32) σ
def f_X8_append (x0 : Nat) (x1 : Int32) (σ : hb_M) : Option ((String ⊕ Int32) × hb_M) :=
  if x1 < 0 then
    f_X8_append_b14 x0 x1 σ
  else
    if (127 : Int32) < x1 then
      f_X8_append_b14 x0 x1 σ
    else
      f_X8_append_b15 x0 x1 (0 : Int32) σ
def f_X8_clearText (x0 : Nat) (σ : hb_M) : Option (Int32 × hb_M) :=
  (hb_getR σ x0 8 3).bind fun r1 =>
  (hb_getI σ r1 7 1).bind fun r2 =>
  (hb_getR σ x0 8 3).bind fun r3 =>
  (hb_putI σ r3 7 1 (0 : Int32)).bind fun r4 =>
  some (r2, r4)
def f_X8_matches (x0 : Nat) (σ : hb_M) : Option (Int32 × hb_M) :=
  (hb_getR σ x0 8 4).bind fun r1 =>
  (hb_on σ r1 3 (f_X3_apply r1 σ)).bind fun r2 =>
  (hb_getR r2.2 x0 8 3).bind fun r3 =>
  (hb_getI r2.2 r3 7 3).bind fun r4 =>
  if r4 = 0 then
    (f_J13_bitCount_95d88 r2.1 r2.2).bind fun r6 =>
    some (r6.1, r6.2)
  else
    (hb_getR r2.2 x0 8 3).bind fun r7 =>
    (hb_getI r2.2 r7 7 2).bind fun r8 =>
    some (((-10 : Int32) - r8), r2.2)
def f_X8_matchAt (x0 : Nat) (x1 : Int32) (σ : hb_M) : Option (Int32 × hb_M) :=
  (hb_getR σ x0 8 4).bind fun r1 =>
  (hb_on σ r1 3 (f_X3_apply r1 σ)).bind fun r2 =>
  (hb_getR r2.2 x0 8 3).bind fun r3 =>
  (hb_getI r2.2 r3 7 3).bind fun r4 =>
  if r4 = 0 then
    (f_X8_memberAt r2.1 x1 r2.2).bind fun r6 =>
    some (r6.1, r6.2)
  else
    (hb_getR r2.2 x0 8 3).bind fun r7 =>
    (hb_getI r2.2 r7 7 2).bind fun r8 =>
    some (((-10 : Int32) - r8), r2.2)
def f_X8_matchSize (x0 : Nat) (x1 : Int32) (σ : hb_M) : Option (Int32 × hb_M) :=
  (hb_getR σ x0 8 4).bind fun r1 =>
  (hb_on σ r1 3 (f_X3_apply r1 σ)).bind fun r2 =>
  (hb_getR r2.2 x0 8 3).bind fun r3 =>
  (hb_getI r2.2 r3 7 3).bind fun r4 =>
  if r4 = 0 then
    if x1 = 0 then
      (hb_getR r2.2 x0 8 0).bind fun r7 =>
      (hb_on r2.2 r7 4 (f_X4_sizeOfAll r7 r2.1 r2.2)).bind fun r8 =>
      some (r8.1, r8.2)
    else
      (hb_getR r2.2 x0 8 1).bind fun r9 =>
      (hb_on r2.2 r9 0 (f_X0_lostWithout r9 r2.1 r2.2)).bind fun r10 =>
      some (r10.1, r10.2)
  else
    (hb_getR r2.2 x0 8 3).bind fun r11 =>
    (hb_getI r2.2 r11 7 2).bind fun r12 =>
    some (((-10 : Int32) - r12), r2.2)
def f_X8_execute (x0 : Nat) (σ : hb_M) : Option (Int32 × hb_M) :=
  (hb_getR σ x0 8 5).bind fun r1 =>
  (hb_on σ r1 1 (f_X1_read r1 σ)).bind fun r2 =>
  (hb_getR r2 x0 8 3).bind fun r3 =>
  (hb_getI r2 r3 7 3).bind fun r4 =>
  if r4 = 0 then
    (hb_getR r2 x0 8 2).bind fun r6 =>
    (hb_getR r2 x0 8 0).bind fun r7 =>
    (hb_on r2 r6 5 (f_X5_note r6 r7 r2)).bind fun r8 =>
    (hb_getR r8 x0 8 5).bind fun r9 =>
    (hb_on r8 r9 1 (f_X1_run r9 r8)).bind fun r10 =>
    if r10.1 = (-1 : Int32) then
      (hb_getR r10.2 x0 8 2).bind fun r12 =>
      (hb_on r10.2 r12 5 (f_X5_keepNoted r12 r10.2)).bind fun r13 =>
      (hb_getR r13 x0 8 5).bind fun r14 =>
      (hb_getI r13 r14 1 7).bind fun r15 =>
      some (r15, r13)
    else
      (hb_getR r10.2 x0 8 0).bind fun r16 =>
      (hb_getR r10.2 x0 8 2).bind fun r17 =>
      (hb_on r10.2 r17 5 (f_X5_noted r17 r10.2)).bind fun r18 =>
      (hb_on r18.2 r16 4 (f_X4_copyFrom r16 r18.1 r18.2)).bind fun r19 =>
      some (((-1000 : Int32) - r10.1), r19)
  else
    (hb_getR r2 x0 8 3).bind fun r20 =>
    (hb_getI r2 r20 7 2).bind fun r21 =>
    some (((-10 : Int32) - r21), r2)
def f_X8_isPicture (x0 : Int32) (σ : hb_M) : Option (Int32 × hb_M) :=
  if x0 < 0 then
    some ((0 : Int32), σ)
  else
    if (2 : Int32) ≤ x0 then
      some ((0 : Int32), σ)
    else
      some ((1 : Int32), σ)
def f_X8_take (x0 : Nat) (x1 : Int32) (σ : hb_M) : Option ((String ⊕ Int32) × hb_M) :=
  (f_X8_isPicture x1 σ).bind fun r1 =>
  hb_xb (f_X8_refuseUnless r1.1 r1.2) fun v2 r2 =>
  (hb_getR r2 x0 8 7).bind fun r3 =>
  (hb_aald r2 r3 x1).bind fun r4 =>
  (hb_getR r2 x0 8 0).bind fun r5 =>
  (hb_on r2 r4 4 (f_X4_copyFrom r4 r5 r2)).bind fun r6 =>
  (hb_getR r6 x0 8 8).bind fun r7 =>
  (hb_zast r6 r7 x1 (1 : Int32)).bind fun r8 =>
  (hb_getR r8 x0 8 0).bind fun r9 =>
  (hb_on r8 r9 4 (f_X4_objectCount r9 r8)).bind fun r10 =>
  some (.inr r10.1, r10.2)
def f_X8_compare_b26 (x0 : Nat) (x1 : Int32) (x2 : Int32) (s0 : Int32) (σ : hb_M) : Option ((String ⊕ Int32) × hb_M) :=
  hb_xb (f_X8_refuse s0 σ) fun v1 r1 =>
  (hb_getR r1 x0 8 7).bind fun r2 =>
  (hb_aald r1 r2 x1).bind fun r3 =>
  if x2 = (0 : Int32) then
    (hb_getR r1 x0 8 0).bind fun r5 =>
    (hb_on r1 r5 4 (f_X4_countNotIn r5 r3 r1)).bind fun r6 =>
    some (.inr r6.1, r6.2)
  else if x2 = (1 : Int32) then
    (hb_getR r1 x0 8 0).bind fun r8 =>
    (hb_on r1 r3 4 (f_X4_countNotIn r3 r8 r1)).bind fun r9 =>
    some (.inr r9.1, r9.2)
  else if x2 = (2 : Int32) then
    (hb_getR r1 x0 8 0).bind fun r11 =>
    (hb_on r1 r11 4 (f_X4_countChangedSince r11 r3 r1)).bind fun r12 =>
    some (.inr r12.1, r12.2)
  else 
    (hb_getR r1 x0 8 0).bind fun r13 =>
    (hb_getR r1 x0 8 0).bind fun r14 =>
    (hb_on r1 r14 4 (f_X4_allObjects r14 r1)).bind fun r15 =>
    (hb_on r15.2 r13 4 (f_X4_sizeOfAll r13 r15.1 r15.2)).bind fun r16 =>
    (hb_on r16.2 r3 4 (f_X4_allObjects r3 r16.2)).bind fun r17 =>
    (hb_on r17.2 r3 4 (f_X4_sizeOfAll r3 r17.1 r17.2)).bind fun r18 =>
    some (.inr (r16.1 - r18.1), r18.2)
def f_X8_compare (x0 : Nat) (x1 : Int32) (x2 : Int32) (σ : hb_M) : Option ((String ⊕ Int32) × hb_M) :=
  (f_X8_isPicture x1 σ).bind fun r1 =>
  (f_X8_problemOf r1.1 x2 (3 : Int32) r1.2).bind fun r2 =>
  hb_xb (f_X8_refuse r2.1 r2.2) fun v3 r3 =>
  (hb_getR r3 x0 8 8).bind fun r4 =>
  (hb_zald r3 r4 x1).bind fun r5 =>
  if r5 = 0 then
    f_X8_compare_b26 x0 x1 x2 (3 : Int32) r3
  else
    f_X8_compare_b26 x0 x1 x2 (0 : Int32) r3
def f_X8_growth_b39 (x0 : Nat) (x1 : Int32) (x2 : Int32) (s0 : Int32) (σ : hb_M) : Option ((String ⊕ Int32) × hb_M) :=
  hb_xb (f_X8_refuse s0 σ) fun v1 r1 =>
  (hb_getR r1 x0 8 0).bind fun r2 =>
  (hb_on r1 r2 4 (f_X4_membersOf r2 x2 (0 : Int32) r1)).bind fun r3 =>
  (f_J13_bitCount_95d88 r3.1 r3.2).bind fun r4 =>
  (hb_getR r4.2 x0 8 7).bind fun r5 =>
  (hb_aald r4.2 r5 x1).bind fun r6 =>
  (hb_on r4.2 r6 4 (f_X4_membersOf r6 x2 (0 : Int32) r4.2)).bind fun r7 =>
  (f_J13_bitCount_95d88 r7.1 r7.2).bind fun r8 =>
  some (.inr (r4.1 - r8.1), r8.2)
def f_X8_growth_b22 (x0 : Nat) (x1 : Int32) (x2 : Int32) (s0 : Int32) (σ : hb_M) : Option ((String ⊕ Int32) × hb_M) :=
  hb_xb (f_X8_refuseUnless s0 σ) fun v1 r1 =>
  (hb_getR r1 x0 8 8).bind fun r2 =>
  (hb_zald r1 r2 x1).bind fun r3 =>
  if r3 = 0 then
    f_X8_growth_b39 x0 x1 x2 (3 : Int32) r1
  else
    f_X8_growth_b39 x0 x1 x2 (0 : Int32) r1
def f_X8_growth_b21 (x0 : Nat) (x1 : Int32) (x2 : Int32) (σ : hb_M) : Option ((String ⊕ Int32) × hb_M) :=
  f_X8_growth_b22 x0 x1 x2 (0 : Int32) σ
def f_X8_growth (x0 : Nat) (x1 : Int32) (x2 : Int32) (σ : hb_M) : Option ((String ⊕ Int32) × hb_M) :=
  (f_X8_isPicture x1 σ).bind fun r1 =>
  if r1.1 = 0 then
    f_X8_growth_b21 x0 x1 x2 r1.2
  else
    if x2 < 0 then
      f_X8_growth_b21 x0 x1 x2 r1.2
    else
      if (11 : Int32) < x2 then
        f_X8_growth_b21 x0 x1 x2 r1.2
      else
        f_X8_growth_b22 x0 x1 x2 (1 : Int32) r1.2
def f_X8_undo_b15 (x0 : Nat) (s0 : Int32) (σ : hb_M) : Option ((String ⊕ Int32) × hb_M) :=
  hb_xb (f_X8_refuse s0 σ) fun v1 r1 =>
  (hb_getR r1 x0 8 0).bind fun r2 =>
  (hb_getR r1 x0 8 2).bind fun r3 =>
  (hb_on r1 r3 5 (f_X5_latest r3 r1)).bind fun r4 =>
  (hb_on r4.2 r2 4 (f_X4_copyFrom r2 r4.1 r4.2)).bind fun r5 =>
  (hb_getR r5 x0 8 2).bind fun r6 =>
  (hb_on r5 r6 5 (f_X5_dropLatest r6 r5)).bind fun r7 =>
  (hb_getR r7 x0 8 2).bind fun r8 =>
  (hb_getI r7 r8 5 1).bind fun r9 =>
  some (.inr r9, r7)
def f_X8_undo (x0 : Nat) (σ : hb_M) : Option ((String ⊕ Int32) × hb_M) :=
  (hb_getR σ x0 8 2).bind fun r1 =>
  (hb_getI σ r1 5 1).bind fun r2 =>
  if r2 ≤ 0 then
    f_X8_undo_b15 x0 (3 : Int32) σ
  else
    f_X8_undo_b15 x0 (0 : Int32) σ
def f_X8_mixed (x0 : Int64) (x2 : Int64) (σ : hb_M) : Option (Int64 × hb_M) :=
  some ((((31 : Int64) * x0) + x2), σ)
def f_X8_mixedWithObject_b44 : Nat → Nat → Int32 → Int64 → Int32 → hb_M → Option (Int64 × hb_M)
  | 0, _, _, _, _, _ => none
  | n + 1, x0, x3, x4, x6, σ =>
    (hb_getR σ x0 8 0).bind fun r1 =>
    (hb_getR σ r1 4 7).bind fun r2 =>
    (hb_iald σ r2 x3).bind fun r3 =>
    if r3 ≤ x6 then
      (hb_getR σ x0 8 1).bind fun r5 =>
      (hb_getR σ r5 0 1).bind fun r6 =>
      (hb_getR σ r6 6 1).bind fun r7 =>
      (hb_iald σ r7 x3).bind fun r8 =>
      (f_X8_mixed x4 r8.toInt64 σ).bind fun r9 =>
      (hb_getR r9.2 x0 8 1).bind fun r10 =>
      (hb_getR r9.2 r10 0 5).bind fun r11 =>
      (hb_iald r9.2 r11 x3).bind fun r12 =>
      (f_X8_mixed r9.1 r12.toInt64 r9.2).bind fun r13 =>
      (hb_getR r13.2 x0 8 1).bind fun r14 =>
      (hb_getR r13.2 r14 0 6).bind fun r15 =>
      (hb_iald r13.2 r15 x3).bind fun r16 =>
      (f_X8_mixed r13.1 r16.toInt64 r13.2).bind fun r17 =>
      (hb_getR r17.2 x0 8 1).bind fun r18 =>
      (hb_getR r17.2 r18 0 10).bind fun r19 =>
      (hb_iald r17.2 r19 x3).bind fun r20 =>
      (f_X8_mixed r17.1 r20.toInt64 r17.2).bind fun r21 =>
      some (r21.1, r21.2)
    else
      (hb_getR σ x0 8 0).bind fun r22 =>
      (hb_on σ r22 4 (f_X4_targetOf r22 x3 x6 σ)).bind fun r23 =>
      (f_X8_mixed x4 r23.1.toInt64 r23.2).bind fun r24 =>
      f_X8_mixedWithObject_b44 n x0 x3 r24.1 (x6 + (1 : Int32)) r24.2
def f_X8_mixedWithObject_b11 : Nat → Nat → Int32 → Int64 → Int32 → hb_M → Option (Int64 × hb_M)
  | 0, _, _, _, _, _ => none
  | n + 1, x0, x3, x4, x6, σ =>
    if (5 : Int32) < x6 then
      f_X8_mixedWithObject_b44 hb_FU x0 x3 x4 (0 : Int32) σ
    else
      (hb_getR σ x0 8 0).bind fun r2 =>
      (hb_on σ r2 4 (f_X4_objectFact r2 x3 x6 σ)).bind fun r3 =>
      (f_X8_mixed x4 r3.1.toInt64 r3.2).bind fun r4 =>
      f_X8_mixedWithObject_b11 n x0 x3 r4.1 (x6 + (1 : Int32)) r4.2
def f_X8_mixedWithObject (x0 : Nat) (x1 : Int64) (x3 : Int32) (σ : hb_M) : Option (Int64 × hb_M) :=
  (f_X8_mixed x1 x3.toInt64 σ).bind fun r1 =>
  f_X8_mixedWithObject_b11 hb_FU x0 x3 r1.1 (0 : Int32) r1.2
def f_X8_digest_b98 (k74 : Nat → Int64 → Int32 → hb_M → Option (Int64 × hb_M)) (x0 : Nat) (x1 : Int64) (x3 : Int32) (σ : hb_M) : Option (Int64 × hb_M) :=
  k74 x0 x1 (x3 + (1 : Int32)) σ
def f_X8_digest_b74 : Nat → Nat → Int64 → Int32 → hb_M → Option (Int64 × hb_M)
  | 0, _, _, _, _ => none
  | n + 1, x0, x1, x3, σ =>
    if (40 : Int32) ≤ x3 then
      (hb_getR σ x0 8 3).bind fun r2 =>
      (hb_getI σ r2 7 1).bind fun r3 =>
      (f_X8_mixed x1 r3.toInt64 σ).bind fun r4 =>
      (hb_getR r4.2 x0 8 2).bind fun r5 =>
      (hb_getI r4.2 r5 5 1).bind fun r6 =>
      (f_X8_mixed r4.1 r6.toInt64 r4.2).bind fun r7 =>
      some (r7.1, r7.2)
    else
      (hb_getR σ x0 8 0).bind fun r8 =>
      (hb_on σ r8 4 (f_X4_hasObject r8 x3 σ)).bind fun r9 =>
      if r9.1 = 0 then
        f_X8_digest_b98 (f_X8_digest_b74 n) x0 x1 x3 r9.2
      else
        (hb_on r9.2 x0 8 (f_X8_mixedWithObject x0 x1 x3 r9.2)).bind fun r11 =>
        f_X8_digest_b98 (f_X8_digest_b74 n) x0 r11.1 x3 r11.2
def f_X8_digest_b38 (k24 : Nat → Int64 → Int32 → hb_M → Option (Int64 × hb_M)) : Nat → Nat → Int64 → Int32 → Int32 → hb_M → Option (Int64 × hb_M)
  | 0, _, _, _, _, _ => none
  | n + 1, x0, x1, x3, x4, σ =>
    if (2 : Int32) < x4 then
      k24 x0 x1 (x3 + (1 : Int32)) σ
    else
      (hb_getR σ x0 8 0).bind fun r2 =>
      (hb_on σ r2 4 (f_X4_classFact r2 x3 x4 σ)).bind fun r3 =>
      (f_X8_mixed x1 r3.1.toInt64 r3.2).bind fun r4 =>
      f_X8_digest_b38 k24 n x0 r4.1 x3 (x4 + (1 : Int32)) r4.2
def f_X8_digest_b24 : Nat → Nat → Int64 → Int32 → hb_M → Option (Int64 × hb_M)
  | 0, _, _, _, _ => none
  | n + 1, x0, x1, x3, σ =>
    (hb_getR σ x0 8 0).bind fun r1 =>
    (hb_getI σ r1 4 0).bind fun r2 =>
    if r2 ≤ x3 then
      f_X8_digest_b74 hb_FU x0 x1 (0 : Int32) σ
    else
      f_X8_digest_b38 (f_X8_digest_b24 n) hb_FU x0 x1 x3 (0 : Int32) σ
def f_X8_digest (x0 : Nat) (σ : hb_M) : Option (Int64 × hb_M) :=
  (hb_getR σ x0 8 1).bind fun r1 =>
  (hb_on σ r1 0 (f_X0_refresh r1 σ)).bind fun r2 =>
  (hb_getR r2 x0 8 0).bind fun r3 =>
  (hb_getI r2 r3 4 0).bind fun r4 =>
  (f_X8_mixed (1759 : Int64) r4.toInt64 r2).bind fun r5 =>
  f_X8_digest_b24 hb_FU x0 r5.1 (0 : Int32) r5.2
