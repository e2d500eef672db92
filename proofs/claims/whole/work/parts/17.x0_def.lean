def f_X6_init (x0 : Nat) (σ : hb_M) : Option hb_M :=
  (hb_newA σ 0 (40 : Int32)).bind fun r1 =>
  (hb_putR r1.2 x0 6 0 r1.1).bind fun r2 =>
  (hb_newA r2 0 (40 : Int32)).bind fun r3 =>
  (hb_putR r3.2 x0 6 1 r3.1).bind fun r4 =>
  (hb_newA r4 0 (40 : Int32)).bind fun r5 =>
  (hb_putR r5.2 x0 6 2 r5.1).bind fun r6 =>
  some r6
def f_X0_init (x0 : Nat) (x1 : Nat) (σ : hb_M) : Option hb_M :=
  (hb_newO σ 6 5).bind fun r1 =>
  (f_X6_init r1.1 r1.2).bind fun r2 =>
  (hb_putR r2 x0 0 1 r1.1).bind fun r3 =>
  (hb_newO r3 6 5).bind fun r4 =>
  (f_X6_init r4.1 r4.2).bind fun r5 =>
  (hb_putR r5 x0 0 2 r4.1).bind fun r6 =>
  (hb_newA r6 0 (320 : Int32)).bind fun r7 =>
  (hb_putR r7.2 x0 0 3 r7.1).bind fun r8 =>
  (hb_newA r8 1 (40 : Int32)).bind fun r9 =>
  (hb_putR r9.2 x0 0 4 r9.1).bind fun r10 =>
  (hb_newA r10 0 (40 : Int32)).bind fun r11 =>
  (hb_putR r11.2 x0 0 5 r11.1).bind fun r12 =>
  (hb_newA r12 0 (40 : Int32)).bind fun r13 =>
  (hb_putR r13.2 x0 0 6 r13.1).bind fun r14 =>
  (hb_newA r14 0 (40 : Int32)).bind fun r15 =>
  (hb_putR r15.2 x0 0 7 r15.1).bind fun r16 =>
  (hb_newA r16 0 (40 : Int32)).bind fun r17 =>
  (hb_putR r17.2 x0 0 8 r17.1).bind fun r18 =>
  (hb_newA r18 1 (40 : Int32)).bind fun r19 =>
  (hb_putR r19.2 x0 0 9 r19.1).bind fun r20 =>
  (hb_newA r20 0 (40 : Int32)).bind fun r21 =>
  (hb_putR r21.2 x0 0 10 r21.1).bind fun r22 =>
  (hb_putR r22 x0 0 0 x1).bind fun r23 =>
  (hb_putI r23 x0 0 12 (-1 : Int32)).bind fun r24 =>
  some r24
def f_X6_enter_b96 (k26 : Nat → Int32 → Int32 → Int64 → Int32 → hb_M → Option hb_M) (x0 : Nat) (x3 : Int32) (x4 : Int32) (x5 : Int64) (x7 : Int32) (σ : hb_M) : Option hb_M :=
  (some ((x5.toUInt64 >>> ((1 : Int32).toInt64.toUInt64 &&& Int64.toUInt64 63)).toInt64)).bind fun r1 =>
  k26 x0 x3 x4 r1 (x7 + (1 : Int32)) σ
def f_X6_enter_b26 : Nat → Nat → Int32 → Int32 → Int64 → Int32 → hb_M → Option hb_M
  | 0, _, _, _, _, _, _ => none
  | n + 1, x0, x3, x4, x5, x7, σ =>
    if (40 : Int32) ≤ x7 then
      some σ
    else
      if (lg_cmp x5 (0 : Int64)) = 0 then
        some σ
      else
        if (lg_cmp (x5 &&& (1 : Int64)) (1 : Int64)) = 0 then
          (hb_getI σ x0 6 3).bind fun r4 =>
          if (40 : Int32) ≤ r4 then
            f_X6_enter_b96 (f_X6_enter_b26 n) x0 x3 x4 x5 x7 σ
          else
            (hb_getR σ x0 6 0).bind fun r6 =>
            (hb_getI σ x0 6 3).bind fun r7 =>
            (hb_iast σ r6 r7 x7).bind fun r8 =>
            (hb_getI r8 x0 6 3).bind fun r9 =>
            (hb_putI r8 x0 6 3 (r9 + (1 : Int32))).bind fun r10 =>
            (hb_getR r10 x0 6 1).bind fun r11 =>
            (hb_iast r10 r11 x7 x4).bind fun r12 =>
            (hb_getR r12 x0 6 2).bind fun r13 =>
            (hb_iast r12 r13 x7 x3).bind fun r14 =>
            f_X6_enter_b96 (f_X6_enter_b26 n) x0 x3 x4 x5 x7 r14
        else
          f_X6_enter_b96 (f_X6_enter_b26 n) x0 x3 x4 x5 x7 σ
def f_X6_enter (x0 : Nat) (x1 : Int64) (x3 : Int32) (x4 : Int32) (σ : hb_M) : Option hb_M :=
  (hb_getL σ x0 6 4).bind fun r1 =>
  (hb_getL σ x0 6 4).bind fun r2 =>
  (hb_putL σ x0 6 4 (r2 ||| (x1 &&& (r1 ^^^ (-1 : Int64))))).bind fun r3 =>
  f_X6_enter_b26 hb_FU x0 x3 x4 (x1 &&& (r1 ^^^ (-1 : Int64))) (0 : Int32) r3
def f_X6_targetsOf_b39 (k5 : Nat → Int32 → Int32 → Int64 → Int32 → hb_M → Option (Int64 × hb_M)) (x0 : Nat) (x1 : Int32) (x2 : Int32) (x5 : Int32) (s0 : Int64) (s1 : Int64) (σ : hb_M) : Option (Int64 × hb_M) :=
  k5 x0 x1 x2 (s0 ||| s1) (x5 + (1 : Int32)) σ
def f_X6_targetsOf_b5 : Nat → Nat → Int32 → Int32 → Int64 → Int32 → hb_M → Option (Int64 × hb_M)
  | 0, _, _, _, _, _, _ => none
  | n + 1, x0, x1, x2, x3, x5, σ =>
    if (8 : Int32) ≤ x5 then
      some (x3, σ)
    else
      if ((x1 * (8 : Int32)) + x5) = x2 then
        f_X6_targetsOf_b39 (f_X6_targetsOf_b5 n) x0 x1 x2 x5 x3 (0 : Int64) σ
      else
        (hb_iald σ x0 ((x1 * (8 : Int32)) + x5)).bind fun r3 =>
        (f_X8_member r3 σ).bind fun r4 =>
        f_X6_targetsOf_b39 (f_X6_targetsOf_b5 n) x0 x1 x2 x5 x3 r4.1 r4.2
def f_X6_targetsOf (x0 : Nat) (x1 : Int32) (x2 : Int32) (σ : hb_M) : Option (Int64 × hb_M) :=
  f_X6_targetsOf_b5 hb_FU x0 x1 x2 (0 : Int64) (0 : Int32) σ
def f_X6_run_b43 : Nat → Nat → Nat → Int64 → Int32 → Int32 → hb_M → Option hb_M
  | 0, _, _, _, _, _, _ => none
  | n + 1, x0, x1, x4, x6, x7, σ =>
    (hb_getI σ x0 6 3).bind fun r1 =>
    if r1 ≤ x7 then
      some σ
    else
      if (40 : Int32) ≤ x7 then
        some σ
      else
        (hb_getR σ x0 6 0).bind fun r4 =>
        (hb_iald σ r4 x7).bind fun r5 =>
        (f_X6_targetsOf x1 r5 x6 σ).bind fun r6 =>
        (hb_getR r6.2 x0 6 1).bind fun r7 =>
        (hb_iald r6.2 r7 r5).bind fun r8 =>
        (hb_on r6.2 x0 6 (f_X6_enter x0 (r6.1 &&& (x4 ^^^ (-1 : Int64))) r5 (r8 + (1 : Int32)) r6.2)).bind fun r9 =>
        f_X6_run_b43 n x0 x1 x4 x6 (x7 + (1 : Int32)) r9
def f_X6_run (x0 : Nat) (x1 : Nat) (x2 : Int64) (x4 : Int64) (x6 : Int32) (σ : hb_M) : Option hb_M :=
  (hb_getR σ x0 6 1).bind fun r1 =>
  (f_J7_fill_53178 r1 (-1 : Int32) σ).bind fun r2 =>
  (hb_getR r2 x0 6 2).bind fun r3 =>
  (f_J7_fill_53178 r3 (-1 : Int32) r2).bind fun r4 =>
  (hb_putI r4 x0 6 3 (0 : Int32)).bind fun r5 =>
  (hb_putL r5 x0 6 4 (0 : Int64)).bind fun r6 =>
  (hb_on r6 x0 6 (f_X6_enter x0 (x2 &&& (x4 ^^^ (-1 : Int64))) (-1 : Int32) (0 : Int32) r6)).bind fun r7 =>
  f_X6_run_b43 hb_FU x0 x1 x4 x6 (0 : Int32) r7
def f_X0_narrowTargets_b87 (k4 : Nat → Int32 → Int32 → Int32 → hb_M → Option (Int32 × hb_M)) (x0 : Nat) (x1 : Int32) (x2 : Int32) (x3 : Int32) (σ : hb_M) : Option (Int32 × hb_M) :=
  k4 x0 x1 x2 (x3 + (1 : Int32)) σ
def f_X0_narrowTargets_b76 (k4 : Nat → Int32 → Int32 → Int32 → hb_M → Option (Int32 × hb_M)) (x0 : Nat) (x1 : Int32) (x3 : Int32) (x4 : Int32) (x5 : Int64) (s0 : Int32) (s1 : Int32) (σ : hb_M) : Option (Int32 × hb_M) :=
  (hb_getR σ x0 0 4).bind fun r1 =>
  (hb_last σ r1 x4 x5).bind fun r2 =>
  f_X0_narrowTargets_b87 k4 x0 x1 (s0 ||| s1) x3 r2
def f_X0_narrowTargets_b4 : Nat → Nat → Int32 → Int32 → Int32 → hb_M → Option (Int32 × hb_M)
  | 0, _, _, _, _, _ => none
  | n + 1, x0, x1, x2, x3, σ =>
    if (8 : Int32) ≤ x3 then
      hb_zr x2 σ
    else
      (hb_getR σ x0 0 3).bind fun r2 =>
      (hb_iald σ r2 ((x1 * (8 : Int32)) + x3)).bind fun r3 =>
      if r3 < 0 then
        f_X0_narrowTargets_b87 (f_X0_narrowTargets_b4 n) x0 x1 x2 x3 σ
      else
        if (40 : Int32) ≤ r3 then
          f_X0_narrowTargets_b87 (f_X0_narrowTargets_b4 n) x0 x1 x2 x3 σ
        else
          (hb_getR σ x0 0 4).bind fun r6 =>
          (hb_lald σ r6 r3).bind fun r7 =>
          (hb_getR σ x0 0 4).bind fun r8 =>
          (hb_lald σ r8 x1).bind fun r9 =>
          (f_X8_member r3 σ).bind fun r10 =>
          (hb_getR r10.2 x0 0 4).bind fun r11 =>
          (hb_lald r10.2 r11 r3).bind fun r12 =>
          if (lg_cmp (r7 &&& (r9 ||| r10.1)) r12) = 0 then
            f_X0_narrowTargets_b76 (f_X0_narrowTargets_b4 n) x0 x1 x3 r3 (r7 &&& (r9 ||| r10.1)) x2 (0 : Int32) r10.2
          else
            f_X0_narrowTargets_b76 (f_X0_narrowTargets_b4 n) x0 x1 x3 r3 (r7 &&& (r9 ||| r10.1)) x2 (1 : Int32) r10.2
def f_X0_narrowTargets (x0 : Nat) (x1 : Int32) (σ : hb_M) : Option (Int32 × hb_M) :=
  f_X0_narrowTargets_b4 hb_FU x0 x1 (0 : Int32) (0 : Int32) σ
def f_X0_findDominators_b135 (k77 : Nat → Int32 → Int32 → hb_M → Option hb_M) (x0 : Nat) (x3 : Int32) (x4 : Int32) (σ : hb_M) : Option hb_M :=
  k77 x0 x3 (x4 + (1 : Int32)) σ
def f_X0_findDominators_b93 (k77 : Nat → Int32 → Int32 → hb_M → Option hb_M) : Nat → Nat → Int32 → Int32 → Int32 → hb_M → Option hb_M
  | 0, _, _, _, _, _ => none
  | n + 1, x0, x3, x4, x5, σ =>
    (hb_getR σ x0 0 1).bind fun r1 =>
    (hb_getI σ r1 6 3).bind fun r2 =>
    if r2 ≤ x5 then
      f_X0_findDominators_b135 k77 x0 x3 x4 σ
    else
      if (40 : Int32) ≤ x5 then
        f_X0_findDominators_b135 k77 x0 x3 x4 σ
      else
        (hb_getR σ x0 0 1).bind fun r5 =>
        (hb_getR σ r5 6 0).bind fun r6 =>
        (hb_iald σ r6 x5).bind fun r7 =>
        (hb_on σ x0 0 (f_X0_narrowTargets x0 r7 σ)).bind fun r8 =>
        f_X0_findDominators_b93 k77 n x0 (x3 ||| r8.1) x4 (x5 + (1 : Int32)) r8.2
def f_X0_findDominators_b77 : Nat → Nat → Int32 → Int32 → hb_M → Option hb_M
  | 0, _, _, _, _ => none
  | n + 1, x0, x3, x4, σ =>
    if (40 : Int32) < x4 then
      some σ
    else
      if x3 = 0 then
        some σ
      else
        f_X0_findDominators_b93 (f_X0_findDominators_b77 n) hb_FU x0 (0 : Int32) x4 (0 : Int32) σ
def f_X0_findDominators_b65 (k10 : Nat → Int64 → Int32 → hb_M → Option hb_M) (x0 : Nat) (x1 : Int64) (x3 : Int32) (s0 : Nat) (s1 : Int32) (s2 : Int64) (σ : hb_M) : Option hb_M :=
  (hb_last σ s0 s1 s2).bind fun r1 =>
  k10 x0 x1 (x3 + (1 : Int32)) r1
def f_X0_findDominators_b10 : Nat → Nat → Int64 → Int32 → hb_M → Option hb_M
  | 0, _, _, _, _ => none
  | n + 1, x0, x1, x3, σ =>
    if (40 : Int32) ≤ x3 then
      f_X0_findDominators_b77 hb_FU x0 (1 : Int32) (0 : Int32) σ
    else
      (hb_getR σ x0 0 1).bind fun r2 =>
      (hb_getL σ r2 6 4).bind fun r3 =>
      (f_X8_contains r3 x3 σ).bind fun r4 =>
      (hb_getR r4.2 x0 0 4).bind fun r5 =>
      (f_X8_contains x1 x3 r4.2).bind fun r6 =>
      if r6.1 = 0 then
        if r4.1 = 0 then
          f_X0_findDominators_b65 (f_X0_findDominators_b10 n) x0 x1 x3 r5 x3 (0 : Int64) r6.2
        else
          (hb_getR r6.2 x0 0 1).bind fun r9 =>
          (hb_getL r6.2 r9 6 4).bind fun r10 =>
          f_X0_findDominators_b65 (f_X0_findDominators_b10 n) x0 x1 x3 r5 x3 r10 r6.2
      else
        (f_X8_member x3 r6.2).bind fun r11 =>
        f_X0_findDominators_b65 (f_X0_findDominators_b10 n) x0 x1 x3 r5 x3 r11.1 r11.2
def f_X0_findDominators (x0 : Nat) (σ : hb_M) : Option hb_M :=
  (hb_getR σ x0 0 0).bind fun r1 =>
  (hb_on σ r1 4 (f_X4_allRoots r1 σ)).bind fun r2 =>
  f_X0_findDominators_b10 hb_FU x0 r2.1 (0 : Int32) r2.2
def f_X0_findImmediate_b79 (k2 : Nat → Int32 → hb_M → Option hb_M) (x0 : Nat) (x1 : Int32) (σ : hb_M) : Option hb_M :=
  k2 x0 (x1 + (1 : Int32)) σ
def f_X0_findImmediate_b73 (k2 : Nat → Int32 → hb_M → Option hb_M) (k27 : Nat → Int32 → Int32 → Int32 → hb_M → Option hb_M) (x0 : Nat) (x1 : Int32) (x2 : Int32) (x3 : Int32) (σ : hb_M) : Option hb_M :=
  k27 x0 x1 x2 (x3 + (1 : Int32)) σ
def f_X0_findImmediate_b27 (k2 : Nat → Int32 → hb_M → Option hb_M) : Nat → Nat → Int32 → Int32 → Int32 → hb_M → Option hb_M
  | 0, _, _, _, _, _ => none
  | n + 1, x0, x1, x2, x3, σ =>
    if (40 : Int32) ≤ x3 then
      f_X0_findImmediate_b79 k2 x0 x1 σ
    else
      if x2 ≤ (1 : Int32) then
        f_X0_findImmediate_b79 k2 x0 x1 σ
      else
        (hb_getR σ x0 0 4).bind fun r3 =>
        (hb_lald σ r3 x1).bind fun r4 =>
        (f_X8_contains r4 x3 σ).bind fun r5 =>
        if r5.1 = 0 then
          f_X0_findImmediate_b73 k2 (f_X0_findImmediate_b27 k2 n) x0 x1 x2 x3 r5.2
        else
          (hb_getR r5.2 x0 0 4).bind fun r7 =>
          (hb_lald r5.2 r7 x3).bind fun r8 =>
          (f_J13_bitCount_95d88 r8 r5.2).bind fun r9 =>
          if r9.1 = (x2 - (1 : Int32)) then
            (hb_getR r9.2 x0 0 5).bind fun r11 =>
            (hb_iast r9.2 r11 x1 x3).bind fun r12 =>
            f_X0_findImmediate_b73 k2 (f_X0_findImmediate_b27 k2 n) x0 x1 x2 x3 r12
          else
            f_X0_findImmediate_b73 k2 (f_X0_findImmediate_b27 k2 n) x0 x1 x2 x3 r9.2
def f_X0_findImmediate_b2 : Nat → Nat → Int32 → hb_M → Option hb_M
  | 0, _, _, _ => none
  | n + 1, x0, x1, σ =>
    if (40 : Int32) ≤ x1 then
      some σ
    else
      (hb_getR σ x0 0 5).bind fun r2 =>
      (hb_iast σ r2 x1 (-1 : Int32)).bind fun r3 =>
      (hb_getR r3 x0 0 4).bind fun r4 =>
      (hb_lald r3 r4 x1).bind fun r5 =>
      (f_J13_bitCount_95d88 r5 r3).bind fun r6 =>
      f_X0_findImmediate_b27 (f_X0_findImmediate_b2 n) hb_FU x0 x1 r6.1 (0 : Int32) r6.2
def f_X0_findImmediate (x0 : Nat) (σ : hb_M) : Option hb_M :=
  f_X0_findImmediate_b2 hb_FU x0 (0 : Int32) σ
def f_X0_dominatedBy_b36 (k5 : Nat → Int32 → Int64 → Int32 → hb_M → Option (Int64 × hb_M)) (x0 : Nat) (x1 : Int32) (x4 : Int32) (s0 : Int64) (s1 : Int64) (σ : hb_M) : Option (Int64 × hb_M) :=
  k5 x0 x1 (s0 ||| s1) (x4 + (1 : Int32)) σ
def f_X0_dominatedBy_b5 : Nat → Nat → Int32 → Int64 → Int32 → hb_M → Option (Int64 × hb_M)
  | 0, _, _, _, _, _ => none
  | n + 1, x0, x1, x2, x4, σ =>
    if (40 : Int32) ≤ x4 then
      some (x2, σ)
    else
      (hb_getR σ x0 0 4).bind fun r2 =>
      (hb_lald σ r2 x4).bind fun r3 =>
      (f_X8_contains r3 x1 σ).bind fun r4 =>
      if r4.1 = 0 then
        f_X0_dominatedBy_b36 (f_X0_dominatedBy_b5 n) x0 x1 x4 x2 (0 : Int64) r4.2
      else
        (f_X8_member x4 r4.2).bind fun r6 =>
        f_X0_dominatedBy_b36 (f_X0_dominatedBy_b5 n) x0 x1 x4 x2 r6.1 r6.2
def f_X0_dominatedBy (x0 : Nat) (x1 : Int32) (σ : hb_M) : Option (Int64 × hb_M) :=
  f_X0_dominatedBy_b5 hb_FU x0 x1 (0 : Int64) (0 : Int32) σ
def f_X0_findRetained_b43 (k2 : Nat → Int32 → hb_M → Option hb_M) (x0 : Nat) (x1 : Int32) (s0 : Nat) (s1 : Int32) (s2 : Int32) (σ : hb_M) : Option hb_M :=
  (hb_iast σ s0 s1 s2).bind fun r1 =>
  k2 x0 (x1 + (1 : Int32)) r1
def f_X0_findRetained_b2 : Nat → Nat → Int32 → hb_M → Option hb_M
  | 0, _, _, _ => none
  | n + 1, x0, x1, σ =>
    if (40 : Int32) ≤ x1 then
      some σ
    else
      (hb_getR σ x0 0 6).bind fun r2 =>
      (hb_getR σ x0 0 1).bind fun r3 =>
      (hb_getL σ r3 6 4).bind fun r4 =>
      (f_X8_contains r4 x1 σ).bind fun r5 =>
      if r5.1 = 0 then
        f_X0_findRetained_b43 (f_X0_findRetained_b2 n) x0 x1 r2 x1 (0 : Int32) r5.2
      else
        (hb_getR r5.2 x0 0 0).bind fun r7 =>
        (hb_on r5.2 x0 0 (f_X0_dominatedBy x0 x1 r5.2)).bind fun r8 =>
        (hb_on r8.2 r7 4 (f_X4_sizeOfAll r7 r8.1 r8.2)).bind fun r9 =>
        f_X0_findRetained_b43 (f_X0_findRetained_b2 n) x0 x1 r2 x1 r9.1 r9.2
def f_X0_findRetained (x0 : Nat) (σ : hb_M) : Option hb_M :=
  f_X0_findRetained_b2 hb_FU x0 (0 : Int32) σ
def f_X0_countReferences_b65 (k18 : Nat → Int32 → hb_M → Option hb_M) (x0 : Nat) (x1 : Int32) (σ : hb_M) : Option hb_M :=
  k18 x0 (x1 + (1 : Int32)) σ
def f_X0_countReferences_b18 : Nat → Nat → Int32 → hb_M → Option hb_M
  | 0, _, _, _ => none
  | n + 1, x0, x1, σ =>
    if (320 : Int32) ≤ x1 then
      some σ
    else
      (hb_getR σ x0 0 3).bind fun r2 =>
      (hb_iald σ r2 x1).bind fun r3 =>
      if r3 < 0 then
        f_X0_countReferences_b65 (f_X0_countReferences_b18 n) x0 x1 σ
      else
        if (40 : Int32) ≤ r3 then
          f_X0_countReferences_b65 (f_X0_countReferences_b18 n) x0 x1 σ
        else
          (hb_getR σ x0 0 7).bind fun r6 =>
          (hb_iald σ r6 r3).bind fun r7 =>
          (hb_iast σ r6 r3 (r7 + (1 : Int32))).bind fun r8 =>
          (hb_getR r8 x0 0 8).bind fun r9 =>
          (hb_iald r8 r9 (x1 / (8 : Int32))).bind fun r10 =>
          (hb_iast r8 r9 (x1 / (8 : Int32)) (r10 + (1 : Int32))).bind fun r11 =>
          f_X0_countReferences_b65 (f_X0_countReferences_b18 n) x0 x1 r11
def f_X0_countReferences (x0 : Nat) (σ : hb_M) : Option hb_M :=
  (hb_getR σ x0 0 7).bind fun r1 =>
  (f_J7_fill_53178 r1 (0 : Int32) σ).bind fun r2 =>
  (hb_getR r2 x0 0 8).bind fun r3 =>
  (f_J7_fill_53178 r3 (0 : Int32) r2).bind fun r4 =>
  f_X0_countReferences_b18 hb_FU x0 (0 : Int32) r4
def f_X0_findLed_b119 (k56 : Nat → Int32 → hb_M → Option hb_M) (x0 : Nat) (x3 : Int32) (σ : hb_M) : Option hb_M :=
  k56 x0 (x3 + (1 : Int32)) σ
def f_X0_findLed_b113 (k56 : Nat → Int32 → hb_M → Option hb_M) (k65 : Nat → Int32 → Int32 → hb_M → Option hb_M) (x0 : Nat) (x3 : Int32) (x4 : Int32) (σ : hb_M) : Option hb_M :=
  k65 x0 x3 (x4 + (1 : Int32)) σ
def f_X0_findLed_b65 (k56 : Nat → Int32 → hb_M → Option hb_M) : Nat → Nat → Int32 → Int32 → hb_M → Option hb_M
  | 0, _, _, _, _ => none
  | n + 1, x0, x3, x4, σ =>
    if (40 : Int32) ≤ x4 then
      f_X0_findLed_b119 k56 x0 x3 σ
    else
      (hb_getR σ x0 0 9).bind fun r2 =>
      (hb_lald σ r2 x3).bind fun r3 =>
      if (lg_cmp r3 (0 : Int64)) = 0 then
        f_X0_findLed_b119 k56 x0 x3 σ
      else
        (hb_getR σ x0 0 9).bind fun r5 =>
        (hb_lald σ r5 x4).bind fun r6 =>
        (f_X8_contains r6 x3 σ).bind fun r7 =>
        if r7.1 = 0 then
          f_X0_findLed_b113 k56 (f_X0_findLed_b65 k56 n) x0 x3 x4 r7.2
        else
          (hb_getR r7.2 x0 0 9).bind fun r9 =>
          (hb_lald r7.2 r9 x4).bind fun r10 =>
          (hb_getR r7.2 x0 0 9).bind fun r11 =>
          (hb_lald r7.2 r11 x3).bind fun r12 =>
          (hb_last r7.2 r9 x4 (r10 ||| r12)).bind fun r13 =>
          f_X0_findLed_b113 k56 (f_X0_findLed_b65 k56 n) x0 x3 x4 r13
def f_X0_findLed_b56 : Nat → Nat → Int32 → hb_M → Option hb_M
  | 0, _, _, _ => none
  | n + 1, x0, x3, σ =>
    if (40 : Int32) ≤ x3 then
      some σ
    else
      f_X0_findLed_b65 (f_X0_findLed_b56 n) hb_FU x0 x3 (0 : Int32) σ
def f_X0_findLed_b47 (k10 : Nat → Int64 → Int32 → hb_M → Option hb_M) (x0 : Nat) (x1 : Int64) (x3 : Int32) (s0 : Nat) (s1 : Int32) (s2 : Int64) (σ : hb_M) : Option hb_M :=
  (hb_last σ s0 s1 s2).bind fun r1 =>
  k10 x0 x1 (x3 + (1 : Int32)) r1
def f_X0_findLed_b10 : Nat → Nat → Int64 → Int32 → hb_M → Option hb_M
  | 0, _, _, _, _ => none
  | n + 1, x0, x1, x3, σ =>
    if (40 : Int32) ≤ x3 then
      f_X0_findLed_b56 hb_FU x0 (0 : Int32) σ
    else
      (hb_getR σ x0 0 9).bind fun r2 =>
      (f_X8_contains x1 x3 σ).bind fun r3 =>
      if r3.1 = 0 then
        f_X0_findLed_b47 (f_X0_findLed_b10 n) x0 x1 x3 r2 x3 (0 : Int64) r3.2
      else
        (f_X8_member x3 r3.2).bind fun r5 =>
        (hb_getR r5.2 x0 0 3).bind fun r6 =>
        (f_X6_targetsOf r6 x3 (-1 : Int32) r5.2).bind fun r7 =>
        f_X0_findLed_b47 (f_X0_findLed_b10 n) x0 x1 x3 r2 x3 (r5.1 ||| r7.1) r7.2
def f_X0_findLed (x0 : Nat) (σ : hb_M) : Option hb_M :=
  (hb_getR σ x0 0 0).bind fun r1 =>
  (hb_on σ r1 4 (f_X4_allObjects r1 σ)).bind fun r2 =>
  f_X0_findLed_b10 hb_FU x0 r2.1 (0 : Int32) r2.2
def f_X0_findComponents_b56 (k2 : Nat → Int32 → hb_M → Option hb_M) (x0 : Nat) (x1 : Int32) (x2 : Int32) (σ : hb_M) : Option hb_M :=
  (hb_getR σ x0 0 10).bind fun r1 =>
  (hb_iast σ r1 x1 x2).bind fun r2 =>
  k2 x0 (x1 + (1 : Int32)) r2
def f_X0_findComponents_b50 (k2 : Nat → Int32 → hb_M → Option hb_M) (k12 : Nat → Int32 → Int32 → Int32 → hb_M → Option hb_M) (x0 : Nat) (x1 : Int32) (x2 : Int32) (x3 : Int32) (σ : hb_M) : Option hb_M :=
  k12 x0 x1 x2 (x3 + (1 : Int32)) σ
def f_X0_findComponents_b12 (k2 : Nat → Int32 → hb_M → Option hb_M) : Nat → Nat → Int32 → Int32 → Int32 → hb_M → Option hb_M
  | 0, _, _, _, _, _ => none
  | n + 1, x0, x1, x2, x3, σ =>
    if x1 < x3 then
      f_X0_findComponents_b56 k2 x0 x1 x2 σ
    else
      if x2 = (-1 : Int32) then
        (hb_getR σ x0 0 9).bind fun r3 =>
        (hb_lald σ r3 x1).bind fun r4 =>
        (f_X8_contains r4 x3 σ).bind fun r5 =>
        if r5.1 = 0 then
          f_X0_findComponents_b50 k2 (f_X0_findComponents_b12 k2 n) x0 x1 x2 x3 r5.2
        else
          (hb_getR r5.2 x0 0 9).bind fun r7 =>
          (hb_lald r5.2 r7 x3).bind fun r8 =>
          (f_X8_contains r8 x1 r5.2).bind fun r9 =>
          if r9.1 = 0 then
            f_X0_findComponents_b50 k2 (f_X0_findComponents_b12 k2 n) x0 x1 x2 x3 r9.2
          else
            f_X0_findComponents_b50 k2 (f_X0_findComponents_b12 k2 n) x0 x1 x3 x3 r9.2
      else
        f_X0_findComponents_b56 k2 x0 x1 x2 σ
def f_X0_findComponents_b2 : Nat → Nat → Int32 → hb_M → Option hb_M
  | 0, _, _, _ => none
  | n + 1, x0, x1, σ =>
    if (40 : Int32) ≤ x1 then
      some σ
    else
      f_X0_findComponents_b12 (f_X0_findComponents_b2 n) hb_FU x0 x1 (-1 : Int32) (0 : Int32) σ
def f_X0_findComponents (x0 : Nat) (σ : hb_M) : Option hb_M :=
  f_X0_findComponents_b2 hb_FU x0 (0 : Int32) σ
def f_X0_refresh (x0 : Nat) (σ : hb_M) : Option hb_M :=
  (hb_getI σ x0 0 12).bind fun r1 =>
  (hb_getR σ x0 0 0).bind fun r2 =>
  (hb_getI σ r2 4 12).bind fun r3 =>
  if r1 = r3 then
    some σ
  else
    (hb_getR σ x0 0 0).bind fun r5 =>
    (hb_getI σ r5 4 12).bind fun r6 =>
    (hb_putI σ x0 0 12 r6).bind fun r7 =>
    (hb_getR r7 x0 0 0).bind fun r8 =>
    (hb_getR r7 x0 0 3).bind fun r9 =>
    (hb_on r7 r8 4 (f_X4_writeReferences r8 r9 r7)).bind fun r10 =>
    (hb_getR r10 x0 0 1).bind fun r11 =>
    (hb_getR r10 x0 0 3).bind fun r12 =>
    (hb_getR r10 x0 0 0).bind fun r13 =>
    (hb_on r10 r13 4 (f_X4_allRoots r13 r10)).bind fun r14 =>
    (hb_on r14.2 r11 6 (f_X6_run r11 r12 r14.1 (0 : Int64) (-1 : Int32) r14.2)).bind fun r15 =>
    (hb_getR r15 x0 0 0).bind fun r16 =>
    (hb_getR r15 x0 0 1).bind fun r17 =>
    (hb_getL r15 r17 6 4).bind fun r18 =>
    (hb_on r15 r16 4 (f_X4_sizeOfAll r16 r18 r15)).bind fun r19 =>
    (hb_putI r19.2 x0 0 11 r19.1).bind fun r20 =>
    (hb_on r20 x0 0 (f_X0_findDominators x0 r20)).bind fun r21 =>
    (hb_on r21 x0 0 (f_X0_findImmediate x0 r21)).bind fun r22 =>
    (hb_on r22 x0 0 (f_X0_findRetained x0 r22)).bind fun r23 =>
    (hb_on r23 x0 0 (f_X0_countReferences x0 r23)).bind fun r24 =>
    (hb_on r24 x0 0 (f_X0_findLed x0 r24)).bind fun r25 =>
    (hb_on r25 x0 0 (f_X0_findComponents x0 r25)).bind fun r26 =>
    some r26
def f_X0_sizeOfComponent_b31 (k4 : Nat → Int32 → Int32 → Int32 → hb_M → Option (Int32 × hb_M)) (x0 : Nat) (x1 : Int32) (x3 : Int32) (s0 : Int32) (s1 : Int32) (σ : hb_M) : Option (Int32 × hb_M) :=
  k4 x0 x1 (s0 + s1) (x3 + (1 : Int32)) σ
def f_X0_sizeOfComponent_b4 : Nat → Nat → Int32 → Int32 → Int32 → hb_M → Option (Int32 × hb_M)
  | 0, _, _, _, _, _ => none
  | n + 1, x0, x1, x2, x3, σ =>
    if (40 : Int32) ≤ x3 then
      some (x2, σ)
    else
      (hb_getR σ x0 0 10).bind fun r2 =>
      (hb_iald σ r2 x3).bind fun r3 =>
      (hb_getR σ x0 0 10).bind fun r4 =>
      (hb_iald σ r4 x1).bind fun r5 =>
      if r3 = r5 then
        f_X0_sizeOfComponent_b31 (f_X0_sizeOfComponent_b4 n) x0 x1 x3 x2 (1 : Int32) σ
      else
        f_X0_sizeOfComponent_b31 (f_X0_sizeOfComponent_b4 n) x0 x1 x3 x2 (0 : Int32) σ
def f_X0_sizeOfComponent (x0 : Nat) (x1 : Int32) (σ : hb_M) : Option (Int32 × hb_M) :=
  f_X0_sizeOfComponent_b4 hb_FU x0 x1 (0 : Int32) (0 : Int32) σ
def f_X0_removeGarbage (x0 : Nat) (σ : hb_M) : Option (Int32 × hb_M) :=
  (hb_on σ x0 0 (f_X0_refresh x0 σ)).bind fun r1 =>
  (hb_getR r1 x0 0 0).bind fun r2 =>
  (hb_getR r1 x0 0 1).bind fun r3 =>
  (hb_getL r1 r3 6 4).bind fun r4 =>
  (hb_on r1 r2 4 (f_X4_removeAllBut r2 r4 r1)).bind fun r5 =>
  some (r5.1, r5.2)
def f_X0_children_b60 (k5 : Nat → Int32 → Int64 → Int32 → hb_M → Option (Int64 × hb_M)) (x0 : Nat) (x1 : Int32) (x4 : Int32) (s0 : Int64) (s1 : Int64) (σ : hb_M) : Option (Int64 × hb_M) :=
  k5 x0 x1 (s0 ||| s1) (x4 + (1 : Int32)) σ
def f_X0_children_b43 (k5 : Nat → Int32 → Int64 → Int32 → hb_M → Option (Int64 × hb_M)) (x0 : Nat) (x1 : Int32) (x2 : Int64) (x4 : Int32) (s0 : Int32) (σ : hb_M) : Option (Int64 × hb_M) :=
  if s0 = 0 then
    f_X0_children_b60 k5 x0 x1 x4 x2 (0 : Int64) σ
  else
    (f_X8_member x4 σ).bind fun r2 =>
    f_X0_children_b60 k5 x0 x1 x4 x2 r2.1 r2.2
def f_X0_children_b42 (k5 : Nat → Int32 → Int64 → Int32 → hb_M → Option (Int64 × hb_M)) (x0 : Nat) (x1 : Int32) (x2 : Int64) (x4 : Int32) (σ : hb_M) : Option (Int64 × hb_M) :=
  f_X0_children_b43 k5 x0 x1 x2 x4 (0 : Int32) σ
def f_X0_children_b5 : Nat → Nat → Int32 → Int64 → Int32 → hb_M → Option (Int64 × hb_M)
  | 0, _, _, _, _, _ => none
  | n + 1, x0, x1, x2, x4, σ =>
    if (40 : Int32) ≤ x4 then
      some (x2, σ)
    else
      (hb_getR σ x0 0 1).bind fun r2 =>
      (hb_getL σ r2 6 4).bind fun r3 =>
      (f_X8_contains r3 x4 σ).bind fun r4 =>
      if r4.1 = 0 then
        f_X0_children_b42 (f_X0_children_b5 n) x0 x1 x2 x4 r4.2
      else
        (hb_getR r4.2 x0 0 5).bind fun r6 =>
        (hb_iald r4.2 r6 x4).bind fun r7 =>
        if r7 = x1 then
          f_X0_children_b43 (f_X0_children_b5 n) x0 x1 x2 x4 (1 : Int32) r4.2
        else
          f_X0_children_b42 (f_X0_children_b5 n) x0 x1 x2 x4 r4.2
def f_X0_children (x0 : Nat) (x1 : Int32) (σ : hb_M) : Option (Int64 × hb_M) :=
  f_X0_children_b5 hb_FU x0 x1 (0 : Int64) (0 : Int32) σ
def f_X0_lostByTrial (x0 : Nat) (σ : hb_M) : Option (Int32 × hb_M) :=
  (hb_getR σ x0 0 0).bind fun r1 =>
  (hb_getR σ x0 0 1).bind fun r2 =>
  (hb_getL σ r2 6 4).bind fun r3 =>
  (hb_getR σ x0 0 2).bind fun r4 =>
  (hb_getL σ r4 6 4).bind fun r5 =>
  (hb_on σ r1 4 (f_X4_sizeOfAll r1 (r3 &&& (r5 ^^^ (-1 : Int64))) σ)).bind fun r6 =>
  some (r6.1, r6.2)
def f_X0_lostWithoutSlot (x0 : Nat) (x1 : Int32) (x2 : Int32) (σ : hb_M) : Option (Int32 × hb_M) :=
  (hb_getR σ x0 0 2).bind fun r1 =>
  (hb_getR σ x0 0 3).bind fun r2 =>
  (hb_getR σ x0 0 0).bind fun r3 =>
  (hb_on σ r3 4 (f_X4_allRoots r3 σ)).bind fun r4 =>
  (hb_on r4.2 r1 6 (f_X6_run r1 r2 r4.1 (0 : Int64) ((x1 * (8 : Int32)) + x2) r4.2)).bind fun r5 =>
  (hb_on r5 x0 0 (f_X0_lostByTrial x0 r5)).bind fun r6 =>
  some (r6.1, r6.2)
def f_X0_lostWithoutRoot (x0 : Nat) (x1 : Int32) (σ : hb_M) : Option (Int32 × hb_M) :=
  (hb_getR σ x0 0 2).bind fun r1 =>
  (hb_getR σ x0 0 3).bind fun r2 =>
  (hb_getR σ x0 0 0).bind fun r3 =>
  (hb_on σ r3 4 (f_X4_allRoots r3 σ)).bind fun r4 =>
  (f_X8_member x1 r4.2).bind fun r5 =>
  (hb_on r5.2 r1 6 (f_X6_run r1 r2 (r4.1 &&& (r5.1 ^^^ (-1 : Int64))) (0 : Int64) (-1 : Int32) r5.2)).bind fun r6 =>
  (hb_on r6 x0 0 (f_X0_lostByTrial x0 r6)).bind fun r7 =>
  some (r7.1, r7.2)
def f_X0_lostWithout (x0 : Nat) (x1 : Int64) (σ : hb_M) : Option (Int32 × hb_M) :=
  (hb_getR σ x0 0 2).bind fun r1 =>
  (hb_getR σ x0 0 3).bind fun r2 =>
  (hb_getR σ x0 0 0).bind fun r3 =>
  (hb_on σ r3 4 (f_X4_allRoots r3 σ)).bind fun r4 =>
  (hb_on r4.2 r1 6 (f_X6_run r1 r2 r4.1 x1 (-1 : Int32) r4.2)).bind fun r5 =>
  (hb_on r5 x0 0 (f_X0_lostByTrial x0 r5)).bind fun r6 =>
  some (r6.1, r6.2)
def f_X0_retainingAtLeast_b62 (k6 : Nat → Int64 → Int32 → Int32 → Int64 → Int32 → hb_M → Option (Int64 × hb_M)) (x0 : Nat) (x1 : Int64) (x3 : Int32) (x4 : Int32) (x7 : Int32) (s0 : Int64) (s1 : Int64) (σ : hb_M) : Option (Int64 × hb_M) :=
  k6 x0 x1 x3 x4 (s0 ||| s1) (x7 + (1 : Int32)) σ
def f_X0_retainingAtLeast_b44 (k6 : Nat → Int64 → Int32 → Int32 → Int64 → Int32 → hb_M → Option (Int64 × hb_M)) (x0 : Nat) (x1 : Int64) (x3 : Int32) (x4 : Int32) (x5 : Int64) (x7 : Int32) (s0 : Int32) (σ : hb_M) : Option (Int64 × hb_M) :=
  if s0 = 0 then
    f_X0_retainingAtLeast_b62 k6 x0 x1 x3 x4 x7 x5 (0 : Int64) σ
  else
    (f_X8_member x7 σ).bind fun r2 =>
    f_X0_retainingAtLeast_b62 k6 x0 x1 x3 x4 x7 x5 r2.1 r2.2
def f_X0_retainingAtLeast_b43 (k6 : Nat → Int64 → Int32 → Int32 → Int64 → Int32 → hb_M → Option (Int64 × hb_M)) (x0 : Nat) (x1 : Int64) (x3 : Int32) (x4 : Int32) (x5 : Int64) (x7 : Int32) (σ : hb_M) : Option (Int64 × hb_M) :=
  f_X0_retainingAtLeast_b44 k6 x0 x1 x3 x4 x5 x7 (0 : Int32) σ
def f_X0_retainingAtLeast_b6 : Nat → Nat → Int64 → Int32 → Int32 → Int64 → Int32 → hb_M → Option (Int64 × hb_M)
  | 0, _, _, _, _, _, _, _ => none
  | n + 1, x0, x1, x3, x4, x5, x7, σ =>
    if (40 : Int32) ≤ x7 then
      some (x5, σ)
    else
      (f_X8_contains x1 x7 σ).bind fun r2 =>
      if r2.1 = 0 then
        f_X0_retainingAtLeast_b43 (f_X0_retainingAtLeast_b6 n) x0 x1 x3 x4 x5 x7 r2.2
      else
        (hb_getR r2.2 x0 0 6).bind fun r4 =>
        (hb_iald r2.2 r4 x7).bind fun r5 =>
        if (r5 * (100 : Int32)) < (x3 * x4) then
          f_X0_retainingAtLeast_b43 (f_X0_retainingAtLeast_b6 n) x0 x1 x3 x4 x5 x7 r2.2
        else
          f_X0_retainingAtLeast_b44 (f_X0_retainingAtLeast_b6 n) x0 x1 x3 x4 x5 x7 (1 : Int32) r2.2
def f_X0_retainingAtLeast (x0 : Nat) (x1 : Int64) (x3 : Int32) (x4 : Int32) (σ : hb_M) : Option (Int64 × hb_M) :=
  f_X0_retainingAtLeast_b6 hb_FU x0 x1 x3 x4 (0 : Int64) (0 : Int32) σ
def f_X0_suspects_b58 (k23 : Nat → Int64 → Int64 → Int32 → hb_M → Option (Int64 × hb_M)) (x0 : Nat) (x2 : Int64) (x4 : Int64) (x6 : Int32) (σ : hb_M) : Option (Int64 × hb_M) :=
  k23 x0 x2 x4 (x6 + (1 : Int32)) σ
def f_X0_suspects_b23 : Nat → Nat → Int64 → Int64 → Int32 → hb_M → Option (Int64 × hb_M)
  | 0, _, _, _, _, _ => none
  | n + 1, x0, x2, x4, x6, σ =>
    if (40 : Int32) ≤ x6 then
      some (x4, σ)
    else
      (f_X8_contains x2 x6 σ).bind fun r2 =>
      if r2.1 = 0 then
        f_X0_suspects_b58 (f_X0_suspects_b23 n) x0 x2 x4 x6 r2.2
      else
        (hb_getR r2.2 x0 0 5).bind fun r4 =>
        (hb_iald r2.2 r4 x6).bind fun r5 =>
        (f_X8_member r5 r2.2).bind fun r6 =>
        f_X0_suspects_b58 (f_X0_suspects_b23 n) x0 x2 (x4 &&& (r6.1 ^^^ (-1 : Int64))) x6 r6.2
def f_X0_suspects (x0 : Nat) (x1 : Int32) (σ : hb_M) : Option (Int64 × hb_M) :=
  (hb_getR σ x0 0 1).bind fun r1 =>
  (hb_getL σ r1 6 4).bind fun r2 =>
  (hb_getI σ x0 0 11).bind fun r3 =>
  (hb_on σ x0 0 (f_X0_retainingAtLeast x0 r2 x1 r3 σ)).bind fun r4 =>
  f_X0_suspects_b23 hb_FU x0 r4.1 r4.1 (0 : Int32) r4.2
def f_X0_greatest_b45 (k5 : Nat → Int64 → Int32 → Int32 → hb_M → Option (Int32 × hb_M)) (x0 : Nat) (x1 : Int64) (x3 : Int32) (x4 : Int32) (σ : hb_M) : Option (Int32 × hb_M) :=
  k5 x0 x1 x3 (x4 + (1 : Int32)) σ
def f_X0_greatest_b42 (k5 : Nat → Int64 → Int32 → Int32 → hb_M → Option (Int32 × hb_M)) (x0 : Nat) (x1 : Int64) (x4 : Int32) (σ : hb_M) : Option (Int32 × hb_M) :=
  f_X0_greatest_b45 k5 x0 x1 x4 x4 σ
def f_X0_greatest_b5 : Nat → Nat → Int64 → Int32 → Int32 → hb_M → Option (Int32 × hb_M)
  | 0, _, _, _, _, _ => none
  | n + 1, x0, x1, x3, x4, σ =>
    if (40 : Int32) ≤ x4 then
      some (x3, σ)
    else
      (f_X8_contains x1 x4 σ).bind fun r2 =>
      if r2.1 = 0 then
        f_X0_greatest_b45 (f_X0_greatest_b5 n) x0 x1 x3 x4 r2.2
      else
        if x3 = (-1 : Int32) then
          f_X0_greatest_b42 (f_X0_greatest_b5 n) x0 x1 x4 r2.2
        else
          (hb_getR r2.2 x0 0 6).bind fun r5 =>
          (hb_iald r2.2 r5 x4).bind fun r6 =>
          (hb_getR r2.2 x0 0 6).bind fun r7 =>
          (hb_iald r2.2 r7 x3).bind fun r8 =>
          if r6 ≤ r8 then
            f_X0_greatest_b45 (f_X0_greatest_b5 n) x0 x1 x3 x4 r2.2
          else
            f_X0_greatest_b42 (f_X0_greatest_b5 n) x0 x1 x4 r2.2
def f_X0_greatest (x0 : Nat) (x1 : Int64) (σ : hb_M) : Option (Int32 × hb_M) :=
  f_X0_greatest_b5 hb_FU x0 x1 (-1 : Int32) (0 : Int32) σ
def f_X0_accumulationFrom_b5 : Nat → Nat → Int32 → Int32 → Int32 → hb_M → Option (Int32 × hb_M)
  | 0, _, _, _, _, _ => none
  | n + 1, x0, x2, x3, x4, σ =>
    if (40 : Int32) ≤ x4 then
      some (x3, σ)
    else
      (hb_on σ x0 0 (f_X0_children x0 x3 σ)).bind fun r2 =>
      (hb_getR r2.2 x0 0 6).bind fun r3 =>
      (hb_iald r2.2 r3 x3).bind fun r4 =>
      (hb_on r2.2 x0 0 (f_X0_retainingAtLeast x0 r2.1 x2 r4 r2.2)).bind fun r5 =>
      (hb_on r5.2 x0 0 (f_X0_greatest x0 r5.1 r5.2)).bind fun r6 =>
      if r6.1 = (-1 : Int32) then
        some (x3, r6.2)
      else
        f_X0_accumulationFrom_b5 n x0 x2 r6.1 (x4 + (1 : Int32)) r6.2
def f_X0_accumulationFrom (x0 : Nat) (x1 : Int32) (x2 : Int32) (σ : hb_M) : Option (Int32 × hb_M) :=
  f_X0_accumulationFrom_b5 hb_FU x0 x2 x1 (0 : Int32) σ
def f_X2_init (x0 : Nat) (σ : hb_M) : Option hb_M :=
  some σ
def f_X2_begin (x0 : Nat) (x1 : Int32) (σ : hb_M) : Option hb_M :=
  (hb_putL σ x0 2 0 x1.toInt64).bind fun r1 =>
  some r1
def f_X2_below (x0 : Nat) (x1 : Int32) (σ : hb_M) : Option (Int32 × hb_M) :=
  (hb_getL σ x0 2 0).bind fun r1 =>
  (hb_putL σ x0 2 0 (((r1 * (1103515245 : Int64)) + (12345 : Int64)) - ((r1 * (1103515245 : Int64)) + (12345 : Int64)) / (2147483648 : Int64) * (2147483648 : Int64))).bind fun r2 =>
  if x1 ≤ 0 then
    some ((0 : Int32), r2)
  else
    (hb_getL r2 x0 2 0).bind fun r4 =>
    if x1.toInt64 = 0 then none else
    some ((((r4 / (65536 : Int64)) - (r4 / (65536 : Int64)) / x1.toInt64 * x1.toInt64).toInt32), r2)
def f_X2_newObject (x0 : Nat) (x1 : Nat) (σ : hb_M) : Option (Int32 × hb_M) :=
  (hb_on σ x0 2 (f_X2_below x0 (4 : Int32) σ)).bind fun r1 =>
  if r1.1 = (2 : Int32) then
    (hb_on r1.2 x0 2 (f_X2_below x0 (9 : Int32) r1.2)).bind fun r3 =>
    (hb_on r3.2 x1 4 (f_X4_addArray x1 r3.1 r3.2)).bind fun r4 =>
    some (r4.1, r4.2)
  else if r1.1 = (3 : Int32) then
    (hb_on r1.2 x1 4 (f_X4_addHolder x1 r1.2)).bind fun r6 =>
    some (r6.1, r6.2)
  else 
    (hb_getI r1.2 x1 4 0).bind fun r7 =>
    (hb_on r1.2 x0 2 (f_X2_below x0 r7 r1.2)).bind fun r8 =>
    (hb_on r8.2 x1 4 (f_X4_addInstance x1 r8.1 r8.2)).bind fun r9 =>
    some (r9.1, r9.2)
def f_X8_memberAt_b38 (k11 : Int64 → Int32 → Int32 → Int32 → hb_M → Option (Int32 × hb_M)) (x0 : Int64) (x2 : Int32) (x3 : Int32) (x4 : Int32) (σ : hb_M) : Option (Int32 × hb_M) :=
  k11 x0 x2 x3 (x4 + (1 : Int32)) σ
def f_X8_memberAt_b11 : Nat → Int64 → Int32 → Int32 → Int32 → hb_M → Option (Int32 × hb_M)
  | 0, _, _, _, _, _ => none
  | n + 1, x0, x2, x3, x4, σ =>
    if (40 : Int32) ≤ x4 then
      some ((-1 : Int32), σ)
    else
      (f_X8_contains x0 x4 σ).bind fun r2 =>
      if r2.1 = 0 then
        f_X8_memberAt_b38 (f_X8_memberAt_b11 n) x0 x2 x3 x4 r2.2
      else
        if x3 = x2 then
          some (x4, r2.2)
        else
          f_X8_memberAt_b38 (f_X8_memberAt_b11 n) x0 x2 (x3 + (1 : Int32)) x4 r2.2
def f_X8_memberAt (x0 : Int64) (x2 : Int32) (σ : hb_M) : Option (Int32 × hb_M) :=
  if 0 ≤ x2 then
    f_X8_memberAt_b11 hb_FU x0 x2 (0 : Int32) (0 : Int32) σ
  else
    some ((-1 : Int32), σ)
def f_X2_addTo_b58 (k8 : Nat → Nat → Int32 → Int32 → hb_M → Option hb_M) (x0 : Nat) (x1 : Nat) (x2 : Int32) (x3 : Int32) (σ : hb_M) : Option hb_M :=
  k8 x0 x1 x2 (x3 + (1 : Int32)) σ
def f_X2_addTo_b8 : Nat → Nat → Nat → Int32 → Int32 → hb_M → Option hb_M
  | 0, _, _, _, _, _ => none
  | n + 1, x0, x1, x2, x3, σ =>
    if (8 : Int32) ≤ x3 then
      (hb_on σ x0 2 (f_X2_below x0 (5 : Int32) σ)).bind fun r2 =>
      if r2.1 = 0 then
        (hb_on r2.2 x1 4 (f_X4_hasObject x1 x2 r2.2)).bind fun r4 =>
        if r4.1 = 0 then
          some r4.2
        else
          (hb_on r4.2 x0 2 (f_X2_below x0 (3 : Int32) r4.2)).bind fun r6 =>
          (hb_on r6.2 x1 4 (f_X4_putRoots x1 x2 ((1 : Int32) <<< (r6.1 &&& 31)) r6.2)).bind fun r7 =>
          some r7.2
      else
        some r2.2
    else
      (hb_on σ x1 4 (f_X4_hasSlot x1 x2 x3 σ)).bind fun r8 =>
      if r8.1 = 0 then
        f_X2_addTo_b58 (f_X2_addTo_b8 n) x0 x1 x2 x3 r8.2
      else
        (hb_on r8.2 x0 2 (f_X2_below x0 (3 : Int32) r8.2)).bind fun r10 =>
        if r10.1 = 0 then
          f_X2_addTo_b58 (f_X2_addTo_b8 n) x0 x1 x2 x3 r10.2
        else
          (hb_on r10.2 x1 4 (f_X4_allObjects x1 r10.2)).bind fun r12 =>
          (f_J13_bitCount_95d88 r12.1 r12.2).bind fun r13 =>
          (hb_on r13.2 x0 2 (f_X2_below x0 r13.1 r13.2)).bind fun r14 =>
          (f_X8_memberAt r12.1 r14.1 r14.2).bind fun r15 =>
          (hb_on r15.2 x1 4 (f_X4_putTarget x1 x2 x3 r15.1 r15.2)).bind fun r16 =>
          f_X2_addTo_b58 (f_X2_addTo_b8 n) x0 x1 x2 x3 r16.2
def f_X2_addTo (x0 : Nat) (x1 : Nat) (σ : hb_M) : Option hb_M :=
  (hb_on σ x0 2 (f_X2_newObject x0 x1 σ)).bind fun r1 =>
  f_X2_addTo_b8 hb_FU x0 x1 r1.1 (0 : Int32) r1.2
def f_X5_init (x0 : Nat) (σ : hb_M) : Option hb_M :=
  (hb_newA σ 3 (6 : Int32)).bind fun r1 =>
  (hb_putR r1.2 x0 5 0 r1.1).bind fun r2 =>
  (hb_getR r2 x0 5 0).bind fun r4 =>
  (hb_newO r2 4 13).bind fun r5 =>
  (f_X4_init r5.1 r5.2).bind fun r6 =>
  (hb_aast r6 r4 (0 : Int32) r5.1).bind fun r7 =>
  (hb_getR r7 x0 5 0).bind fun r9 =>
  (hb_newO r7 4 13).bind fun r10 =>
  (f_X4_init r10.1 r10.2).bind fun r11 =>
  (hb_aast r11 r9 ((0 : Int32) + (1 : Int32)) r10.1).bind fun r12 =>
  (hb_getR r12 x0 5 0).bind fun r14 =>
  (hb_newO r12 4 13).bind fun r15 =>
  (f_X4_init r15.1 r15.2).bind fun r16 =>
  (hb_aast r16 r14 (((0 : Int32) + (1 : Int32)) + (1 : Int32)) r15.1).bind fun r17 =>
  (hb_getR r17 x0 5 0).bind fun r19 =>
  (hb_newO r17 4 13).bind fun r20 =>
  (f_X4_init r20.1 r20.2).bind fun r21 =>
  (hb_aast r21 r19 ((((0 : Int32) + (1 : Int32)) + (1 : Int32)) + (1 : Int32)) r20.1).bind fun r22 =>
  (hb_getR r22 x0 5 0).bind fun r24 =>
  (hb_newO r22 4 13).bind fun r25 =>
  (f_X4_init r25.1 r25.2).bind fun r26 =>
  (hb_aast r26 r24 (((((0 : Int32) + (1 : Int32)) + (1 : Int32)) + (1 : Int32)) + (1 : Int32)) r25.1).bind fun r27 =>
  (hb_getR r27 x0 5 0).bind fun r29 =>
  (hb_newO r27 4 13).bind fun r30 =>
  (f_X4_init r30.1 r30.2).bind fun r31 =>
  (hb_aast r31 r29 ((((((0 : Int32) + (1 : Int32)) + (1 : Int32)) + (1 : Int32)) + (1 : Int32)) + (1 : Int32)) r30.1).bind fun r32 =>
  some r32
def f_X5_note (x0 : Nat) (x1 : Nat) (σ : hb_M) : Option hb_M :=
  (hb_getR σ x0 5 0).bind fun r1 =>
  (hb_getI σ x0 5 1).bind fun r2 =>
  (hb_aald σ r1 r2).bind fun r3 =>
  (hb_on σ r3 4 (f_X4_copyFrom r3 x1 σ)).bind fun r4 =>
  some r4
def f_X5_noted (x0 : Nat) (σ : hb_M) : Option (Nat × hb_M) :=
  (hb_getR σ x0 5 0).bind fun r1 =>
  (hb_getI σ x0 5 1).bind fun r2 =>
  (hb_aald σ r1 r2).bind fun r3 =>
  some (r3, σ)
def f_X5_keepNoted_b28 : Nat → Nat → Nat → Int32 → hb_M → Option hb_M
  | 0, _, _, _, _ => none
  | n + 1, x0, x1, x2, σ =>
    if (5 : Int32) ≤ x2 then
      (hb_getR σ x0 5 0).bind fun r2 =>
      (hb_aast σ r2 (5 : Int32) x1).bind fun r3 =>
      some r3
    else
      (hb_getR σ x0 5 0).bind fun r4 =>
      (hb_getR σ x0 5 0).bind fun r5 =>
      (hb_aald σ r5 (x2 + (1 : Int32))).bind fun r6 =>
      (hb_aast σ r4 x2 r6).bind fun r7 =>
      f_X5_keepNoted_b28 n x0 x1 (x2 + (1 : Int32)) r7
def f_X5_keepNoted (x0 : Nat) (σ : hb_M) : Option hb_M :=
  (hb_getI σ x0 5 1).bind fun r1 =>
  if (5 : Int32) ≤ r1 then
    (hb_getR σ x0 5 0).bind fun r3 =>
    (hb_aald σ r3 (0 : Int32)).bind fun r4 =>
    f_X5_keepNoted_b28 hb_FU x0 r4 (0 : Int32) σ
  else
    (hb_getI σ x0 5 1).bind fun r5 =>
    (hb_putI σ x0 5 1 (r5 + (1 : Int32))).bind fun r6 =>
    some r6
def f_X5_save (x0 : Nat) (x1 : Nat) (σ : hb_M) : Option hb_M :=
  (hb_on σ x0 5 (f_X5_note x0 x1 σ)).bind fun r1 =>
  (hb_on r1 x0 5 (f_X5_keepNoted x0 r1)).bind fun r2 =>
  some r2
def f_X5_latest (x0 : Nat) (σ : hb_M) : Option (Nat × hb_M) :=
  (hb_getR σ x0 5 0).bind fun r1 =>
  (hb_getI σ x0 5 1).bind fun r2 =>
  (hb_aald σ r1 (if (r2 - (1 : Int32)) < (0 : Int32) then (0 : Int32) else (r2 - (1 : Int32)))).bind fun r3 =>
  some (r3, σ)
def f_X5_dropLatest (x0 : Nat) (σ : hb_M) : Option hb_M :=
  (hb_getI σ x0 5 1).bind fun r1 =>
  (hb_putI σ x0 5 1 (if (r1 - (1 : Int32)) < (0 : Int32) then (0 : Int32) else (r1 - (1 : Int32)))).bind fun r2 =>
  some r2
def f_X6_pathObject_b26 : Nat → Nat → Int32 → Int32 → Int32 → hb_M → Option (Int32 × hb_M)
  | 0, _, _, _, _, _ => none
  | n + 1, x0, x2, x3, x4, σ =>
    if x4 ≤ x2 then
      some (x3, σ)
    else
      if x3 < 0 then
        some (x3, σ)
      else
        (hb_getR σ x0 6 2).bind fun r3 =>
        (hb_iald σ r3 x3).bind fun r4 =>
        f_X6_pathObject_b26 n x0 x2 r4 (x4 + (-1 : Int32)) σ
def f_X6_pathObject (x0 : Nat) (x1 : Int32) (x2 : Int32) (σ : hb_M) : Option (Int32 × hb_M) :=
  if x2 < 0 then
    some ((-1 : Int32), σ)
  else
    (hb_getR σ x0 6 1).bind fun r2 =>
    (hb_iald σ r2 x1).bind fun r3 =>
    if x2 ≤ r3 then
      (hb_getR σ x0 6 1).bind fun r5 =>
      (hb_iald σ r5 x1).bind fun r6 =>
      f_X6_pathObject_b26 hb_FU x0 x2 x1 r6 σ
    else
      some ((-1 : Int32), σ)
def f_X7_init (x0 : Nat) (σ : hb_M) : Option hb_M :=
  (hb_newA σ 0 (100 : Int32)).bind fun r1 =>
  (hb_putR r1.2 x0 7 0 r1.1).bind fun r2 =>
  some r2
def f_X7_add (x0 : Nat) (x1 : Int32) (σ : hb_M) : Option hb_M :=
  (hb_getI σ x0 7 1).bind fun r1 =>
  if (100 : Int32) ≤ r1 then
    some σ
  else
    (hb_getR σ x0 7 0).bind fun r3 =>
    (hb_getI σ x0 7 1).bind fun r4 =>
    (hb_iast σ r3 r4 x1).bind fun r5 =>
    (hb_getI r5 x0 7 1).bind fun r6 =>
    (hb_putI r5 x0 7 1 (r6 + (1 : Int32))).bind fun r7 =>
    some r7
def f_X7_begin (x0 : Nat) (σ : hb_M) : Option hb_M :=
  (hb_putI σ x0 7 2 (0 : Int32)).bind fun r1 =>
  (hb_putZ r1 x0 7 3 (0 : Int32)).bind fun r2 =>
  some r2
def f_X7_fail (x0 : Nat) (σ : hb_M) : Option hb_M :=
  (hb_putZ σ x0 7 3 (1 : Int32)).bind fun r1 =>
  some r1
def f_X7_atEnd (x0 : Nat) (σ : hb_M) : Option (Int32 × hb_M) :=
  (hb_getI σ x0 7 2).bind fun r1 =>
  (hb_getI σ x0 7 1).bind fun r2 =>
  if r1 < r2 then
    some ((0 : Int32), σ)
  else
    some ((1 : Int32), σ)
def f_X7_next (x0 : Nat) (σ : hb_M) : Option (Int32 × hb_M) :=
  (hb_getI σ x0 7 3).bind fun r1 =>
  if r1 = 0 then
    (hb_getI σ x0 7 2).bind fun r3 =>
    if r3 < 0 then
      some ((-1 : Int32), σ)
    else
      (hb_getI σ x0 7 2).bind fun r5 =>
      (hb_getI σ x0 7 1).bind fun r6 =>
      if r5 < r6 then
        (hb_getR σ x0 7 0).bind fun r8 =>
        (hb_getI σ x0 7 2).bind fun r9 =>
        (hb_iald σ r8 r9).bind fun r10 =>
        some (r10, σ)
      else
        some ((-1 : Int32), σ)
  else
    some ((-1 : Int32), σ)
def f_X7_skip (x0 : Nat) (x1 : Int32) (σ : hb_M) : Option (Int32 × hb_M) :=
  (hb_on σ x0 7 (f_X7_next x0 σ)).bind fun r1 =>
  if r1.1 = x1 then
    (hb_getI r1.2 x0 7 2).bind fun r3 =>
    (hb_putI r1.2 x0 7 2 (r3 + (1 : Int32))).bind fun r4 =>
    some ((1 : Int32), r4)
  else
    some ((0 : Int32), r1.2)
def f_X7_expect (x0 : Nat) (x1 : Int32) (σ : hb_M) : Option hb_M :=
  (hb_on σ x0 7 (f_X7_skip x0 x1 σ)).bind fun r1 =>
  if r1.1 = 0 then
    (hb_on r1.2 x0 7 (f_X7_fail x0 r1.2)).bind fun r3 =>
    some r3
  else
    some r1.2
def f_J0_isLatin1_aae02 (x0 : Nat) (σ : hb_M) : Option (Int32 × hb_M) :=
  if (1 : Int32) = 0 then
    some ((0 : Int32), σ)
  else
    (hb_ssc x0).bind fun r2 =>
    if r2 = 0 then
      some ((1 : Int32), σ)
    else
      some ((0 : Int32), σ)
def f_J0_coder_7d493 (x0 : Nat) (σ : hb_M) : Option (Int32 × hb_M) :=
  if (1 : Int32) = 0 then
    some ((1 : Int32), σ)
  else
    (hb_ssc x0).bind fun r2 =>
    if r2 = 0 then some (r2, σ) else none
def f_J0_length_8abf5 (x0 : Nat) (σ : hb_M) : Option (Int32 × hb_M) :=
  (hb_ssv x0).bind fun r1 =>
  (hb_ssl r1).bind fun r2 =>
  (hb_son x0 (f_J0_coder_7d493 x0 σ)).bind fun r3 =>
  some ((r2 >>> (r3.1 &&& 31)), r3.2)
def f_J1_canEncode_9a6ad (x0 : Int32) (σ : hb_M) : Option (Int32 × hb_M) :=
  if x0 < 0 then
    some ((0 : Int32), σ)
  else
    if (255 : Int32) < x0 then
      some ((0 : Int32), σ)
    else
      some ((1 : Int32), σ)
def f_J1_indexOfChar_4cfef_b7 : Nat → Nat → Int32 → Int32 → Int32 → hb_M → Option (Int32 × hb_M)
  | 0, _, _, _, _, _ => none
  | n + 1, x0, x3, x4, x5, σ =>
    if x3 ≤ x5 then
      some ((-1 : Int32), σ)
    else
      (hb_ssb x0 x5).bind fun r2 =>
      if r2 = x4 then
        some (x5, σ)
      else
        f_J1_indexOfChar_4cfef_b7 n x0 x3 x4 (x5 + (1 : Int32)) σ
def f_J1_indexOfChar_4cfef (x0 : Nat) (x1 : Int32) (x2 : Int32) (x3 : Int32) (σ : hb_M) : Option (Int32 × hb_M) :=
  f_J1_indexOfChar_4cfef_b7 hb_FU x0 x3 x1.toInt8.toInt32 x2 σ
def f_J1_indexOf_4cfef (x0 : Nat) (x1 : Int32) (x2 : Int32) (x3 : Int32) (σ : hb_M) : Option (Int32 × hb_M) :=
  (f_J1_canEncode_9a6ad x1 σ).bind fun r1 =>
  if r1.1 = 0 then
    some ((-1 : Int32), r1.2)
  else
    (hb_ssl x0).bind fun r3 =>
    if (if x2 < (0 : Int32) then (0 : Int32) else x2) < (if r3 < x3 then r3 else x3) then
      (f_J1_indexOfChar_4cfef x0 x1 (if x2 < (0 : Int32) then (0 : Int32) else x2) (if r3 < x3 then r3 else x3) r1.2).bind fun r5 =>
      some (r5.1, r5.2)
    else
      some ((-1 : Int32), r1.2)
def f_J0_indexOf_7cf53 (x0 : Nat) (x1 : Int32) (x2 : Int32) (σ : hb_M) : Option (Int32 × hb_M) :=
  (hb_son x0 (f_J0_isLatin1_aae02 x0 σ)).bind fun r1 =>
  if r1.1 = 0 then
    (hb_ssv x0).bind fun r3 =>
    (hb_son x0 (f_J0_length_8abf5 x0 r1.2)).bind fun r4 =>
    none
  else
    (hb_ssv x0).bind fun r5 =>
    (hb_son x0 (f_J0_length_8abf5 x0 r1.2)).bind fun r6 =>
    (f_J1_indexOf_4cfef r5 x1 x2 r6.1 r6.2).bind fun r7 =>
    some (r7.1, r7.2)
def f_J0_indexOf_0f7a4 (x0 : Nat) (x1 : Int32) (σ : hb_M) : Option (Int32 × hb_M) :=
  (hb_son x0 (f_J0_indexOf_7cf53 x0 x1 (0 : Int32) σ)).bind fun r1 =>
  some (r1.1, r1.2)
def f_X7_oneOf_b19 (x0 : Nat) (σ : hb_M) : Option (Int32 × hb_M) :=
  (hb_on σ x0 7 (f_X7_fail x0 σ)).bind fun r1 =>
  some ((-1 : Int32), r1)
def f_X7_oneOf (x0 : Nat) (x1 : Nat) (σ : hb_M) : Option (Int32 × hb_M) :=
  (hb_on σ x0 7 (f_X7_next x0 σ)).bind fun r1 =>
  if r1.1 = (-1 : Int32) then
    f_X7_oneOf_b19 x0 r1.2
  else
    (hb_son x1 (f_J0_indexOf_0f7a4 x1 ((r1.1.toUInt32 % 65536).toInt32) r1.2)).bind fun r3 =>
    if 0 ≤ r3.1 then
      (hb_getI r3.2 x0 7 2).bind fun r5 =>
      (hb_putI r3.2 x0 7 2 (r5 + (1 : Int32))).bind fun r6 =>
      some (r1.1, r6)
    else
      f_X7_oneOf_b19 x0 r3.2
def f_X7_number_b62 (x0 : Nat) (x2 : Int32) (x3 : Int32) (σ : hb_M) : Option (Int32 × hb_M) :=
  if x3 = 0 then
    (hb_on σ x0 7 (f_X7_fail x0 σ)).bind fun r2 =>
    some (x2, r2)
  else
    some (x2, σ)
def f_X7_number_b10 : Nat → Nat → Int32 → Int32 → Int32 → Int32 → hb_M → Option (Int32 × hb_M)
  | 0, _, _, _, _, _, _ => none
  | n + 1, x0, x1, x2, x3, x4, σ =>
    if x1 ≤ x3 then
      f_X7_number_b62 x0 x2 x3 σ
    else
      if x4 < (48 : Int32) then
        f_X7_number_b62 x0 x2 x3 σ
      else
        if (57 : Int32) < x4 then
          f_X7_number_b62 x0 x2 x3 σ
        else
          (hb_getI σ x0 7 2).bind fun r4 =>
          (hb_putI σ x0 7 2 (r4 + (1 : Int32))).bind fun r5 =>
          (hb_on r5 x0 7 (f_X7_next x0 r5)).bind fun r6 =>
          f_X7_number_b10 n x0 x1 (((x2 * (10 : Int32)) + x4) - (48 : Int32)) (x3 + (1 : Int32)) r6.1 r6.2
def f_X7_number (x0 : Nat) (x1 : Int32) (σ : hb_M) : Option (Int32 × hb_M) :=
  (hb_on σ x0 7 (f_X7_next x0 σ)).bind fun r1 =>
  f_X7_number_b10 hb_FU x0 x1 (0 : Int32) (0 : Int32) r1.1 r1.2
