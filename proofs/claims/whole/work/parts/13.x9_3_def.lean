def f_X9_isGroup (x0 : Nat) (x1 : Int32) (σ : hb_M) : Option (Int32 × hb_M) :=
  (hb_on σ x0 9 (f_X9_isClass x0 x1 σ)).bind fun r1 =>
  if r1.1 = 0 then
    if x1 = (10 : Int32) then
      some ((1 : Int32), r1.2)
    else
      if x1 = (11 : Int32) then
        some ((1 : Int32), r1.2)
      else
        some ((0 : Int32), r1.2)
  else
    some ((1 : Int32), r1.2)
def f_X9_groupSet_b91 (k5 : Nat → Int32 → Int32 → Int64 → Int32 → hb_M → Option (Int64 × hb_M)) (x0 : Nat) (x1 : Int32) (x2 : Int32) (x3 : Int64) (x5 : Int32) (σ : hb_M) : Option (Int64 × hb_M) :=
  k5 x0 x1 x2 x3 (x5 + (1 : Int32)) σ
def f_X9_groupSet_b89 (k5 : Nat → Int32 → Int32 → Int64 → Int32 → hb_M → Option (Int64 × hb_M)) (x0 : Nat) (x1 : Int32) (x2 : Int32) (x5 : Int32) (s0 : Int64) (s1 : Int64) (σ : hb_M) : Option (Int64 × hb_M) :=
  f_X9_groupSet_b91 k5 x0 x1 x2 (s0 ||| s1) x5 σ
def f_X9_groupSet_b73 (k5 : Nat → Int32 → Int32 → Int64 → Int32 → hb_M → Option (Int64 × hb_M)) (x0 : Nat) (x1 : Int32) (x2 : Int32) (x3 : Int64) (x5 : Int32) (s0 : Int32) (σ : hb_M) : Option (Int64 × hb_M) :=
  if s0 = 0 then
    f_X9_groupSet_b89 k5 x0 x1 x2 x5 x3 (0 : Int64) σ
  else
    f_X9_groupSet_b89 k5 x0 x1 x2 x5 x3 ((1 : Int64) <<< (x5.toInt64 &&& 63)) σ
def f_X9_groupSet_b68 (k5 : Nat → Int32 → Int32 → Int64 → Int32 → hb_M → Option (Int64 × hb_M)) (x0 : Nat) (x1 : Int32) (x2 : Int32) (x3 : Int64) (x5 : Int32) (σ : hb_M) : Option (Int64 × hb_M) :=
  f_X9_groupSet_b73 k5 x0 x1 x2 x3 x5 (1 : Int32) σ
def f_X9_groupSet_b72 (k5 : Nat → Int32 → Int32 → Int64 → Int32 → hb_M → Option (Int64 × hb_M)) (x0 : Nat) (x1 : Int32) (x2 : Int32) (x3 : Int64) (x5 : Int32) (σ : hb_M) : Option (Int64 × hb_M) :=
  f_X9_groupSet_b73 k5 x0 x1 x2 x3 x5 (0 : Int32) σ
def f_X9_groupSet_b5 : Nat → Nat → Int32 → Int32 → Int64 → Int32 → hb_M → Option (Int64 × hb_M)
  | 0, _, _, _, _, _, _ => none
  | n + 1, x0, x1, x2, x3, x5, σ =>
    if (40 : Int32) ≤ x5 then
      some (x3, σ)
    else
      (hb_on σ x0 9 (f_X9_isObject x0 x5 σ)).bind fun r2 =>
      if r2.1 = 0 then
        f_X9_groupSet_b91 (f_X9_groupSet_b5 n) x0 x1 x2 x3 x5 r2.2
      else
        (hb_getR r2.2 x0 9 0).bind fun r4 =>
        (f_X9_at x5 r2.2).bind fun r5 =>
        (hb_iald r5.2 r4 (r5.1 + (1 : Int32))).bind fun r6 =>
        if r6 = x1 then
          f_X9_groupSet_b68 (f_X9_groupSet_b5 n) x0 x1 x2 x3 x5 r5.2
        else
          if x2 = 0 then
            f_X9_groupSet_b72 (f_X9_groupSet_b5 n) x0 x1 x2 x3 x5 r5.2
          else
            if (10 : Int32) ≤ x1 then
              f_X9_groupSet_b72 (f_X9_groupSet_b5 n) x0 x1 x2 x3 x5 r5.2
            else
              if (10 : Int32) ≤ r6 then
                f_X9_groupSet_b72 (f_X9_groupSet_b5 n) x0 x1 x2 x3 x5 r5.2
              else
                (hb_on r5.2 x0 9 (f_X9_isBelow x0 r6 x1 r5.2)).bind fun r11 =>
                if r11.1 = 0 then
                  f_X9_groupSet_b72 (f_X9_groupSet_b5 n) x0 x1 x2 x3 x5 r11.2
                else
                  f_X9_groupSet_b68 (f_X9_groupSet_b5 n) x0 x1 x2 x3 x5 r11.2
def f_X9_groupSet (x0 : Nat) (x1 : Int32) (x2 : Int32) (σ : hb_M) : Option (Int64 × hb_M) :=
  f_X9_groupSet_b5 hb_FU x0 x1 x2 (0 : Int64) (0 : Int32) σ
def f_X9_group_b27 (x0 : Nat) (x1 : Int32) (x2 : Int32) (x3 : Int32) (s0 : Nat) (s1 : Int32) (σ : hb_M) : Option (Int32 × hb_M) :=
  (hb_on σ s0 9 (f_X9_refused s0 s1 σ)).bind fun r1 =>
  if r1.1 = 0 then
    (hb_on r1.2 x0 9 (f_X9_groupSet x0 x1 x3 r1.2)).bind fun r3 =>
    (hb_on r3.2 x0 9 (f_X9_reached x0 (0 : Int64) (-1 : Int32) (-1 : Int32) (-1 : Int32) r3.2)).bind fun r4 =>
    if x2 = (0 : Int32) then
      (f_X9_bits r3.1 r4.2).bind fun r6 =>
      some (r6.1, r6.2)
    else if x2 = (1 : Int32) then
      (f_X9_bits (r3.1 &&& r4.1) r4.2).bind fun r8 =>
      some (r8.1, r8.2)
    else if x2 = (2 : Int32) then
      (hb_on r4.2 x0 9 (f_X9_sizes x0 r3.1 r4.2)).bind fun r10 =>
      some (r10.1.toInt32, r10.2)
    else 
      (hb_on r4.2 x0 9 (f_X9_reached x0 r3.1 (-1 : Int32) (-1 : Int32) (-1 : Int32) r4.2)).bind fun r11 =>
      (hb_on r11.2 x0 9 (f_X9_sizes x0 (r4.1 &&& (r11.1 ^^^ (-1 : Int64))) r11.2)).bind fun r12 =>
      some (r12.1.toInt32, r12.2)
  else
    some ((0 : Int32), r1.2)
def f_X9_group (x0 : Nat) (x1 : Int32) (x2 : Int32) (x3 : Int32) (σ : hb_M) : Option (Int32 × hb_M) :=
  (hb_on σ x0 9 (f_X9_isGroup x0 x1 σ)).bind fun r1 =>
  if r1.1 = 0 then
    f_X9_group_b27 x0 x1 x2 x3 x0 (1 : Int32) r1.2
  else
    (f_X9_within x2 (0 : Int32) (3 : Int32) r1.2).bind fun r3 =>
    if r3.1 = 0 then
      f_X9_group_b27 x0 x1 x2 x3 x0 (2 : Int32) r3.2
    else
      f_X9_group_b27 x0 x1 x2 x3 x0 (0 : Int32) r3.2
def f_Jxe99ae_isNaN_b9ae7 (x0 : UInt64) (σ : hb_M) : Option (Int32 × hb_M) :=
  if (Op.cmpValue (FP.dcmp x0 x0) .l) = 0 then
    some ((0 : Int32), σ)
  else
    some ((1 : Int32), σ)
def f_Jxe99ae_doubleToLongBits_ccdee (x0 : UInt64) (σ : hb_M) : Option (Int64 × hb_M) :=
  (f_Jxe99ae_isNaN_b9ae7 x0 σ).bind fun r1 =>
  if r1.1 = 0 then
    some (x0.toInt64, r1.2)
  else
    some ((9221120237041090560 : Int64), r1.2)
def f_X9_meanRetainedBits_b99 (s0 : UInt64) (σ : hb_M) : Option (Int64 × hb_M) :=
  (f_Jxe99ae_doubleToLongBits_ccdee s0 σ).bind fun r1 =>
  some (r1.1, r1.2)
def f_X9_meanRetainedBits_b71 (k40 : Nat → Int64 → Int64 → Int32 → hb_M → Option (Int64 × hb_M)) (x0 : Nat) (x2 : Int64) (x6 : Int32) (s0 : Int64) (s1 : Int64) (σ : hb_M) : Option (Int64 × hb_M) :=
  k40 x0 x2 (s0 + s1) (x6 + (1 : Int32)) σ
def f_X9_meanRetainedBits_b40 : Nat → Nat → Int64 → Int64 → Int32 → hb_M → Option (Int64 × hb_M)
  | 0, _, _, _, _, _ => none
  | n + 1, x0, x2, x4, x6, σ =>
    if (40 : Int32) ≤ x6 then
      if (lg_cmp x2 (0 : Int64)) = 0 then
        f_X9_meanRetainedBits_b99 FP.dconst0 σ
      else
        (f_X9_bits x2 σ).bind fun r3 =>
        if ¬ ((FP.ddiv (FP.l2d x4) (FP.i2d r3.1)) &&& 0x7fffffffffffffff ≤ 0x7ff0000000000000) then none else
        f_X9_meanRetainedBits_b99 (FP.ddiv (FP.l2d x4) (FP.i2d r3.1)) r3.2
    else
      if (lg_cmp ((x2 >>> (x6.toInt64 &&& 63)) &&& (1 : Int64)) (1 : Int64)) = 0 then
        (hb_on σ x0 9 (f_X9_retainedBy x0 x6 σ)).bind fun r6 =>
        f_X9_meanRetainedBits_b71 (f_X9_meanRetainedBits_b40 n) x0 x2 x6 x4 r6.1.toInt64 r6.2
      else
        f_X9_meanRetainedBits_b71 (f_X9_meanRetainedBits_b40 n) x0 x2 x6 x4 (0 : Int64) σ
def f_X9_meanRetainedBits (x0 : Nat) (x1 : Int32) (σ : hb_M) : Option (Int64 × hb_M) :=
  (hb_on σ x0 9 (f_X9_isGroup x0 x1 σ)).bind fun r1 =>
  (hb_on r1.2 x0 9 (f_X9_need x0 r1.1 r1.2)).bind fun r2 =>
  (hb_on r2.2 x0 9 (f_X9_refused x0 r2.1 r2.2)).bind fun r3 =>
  if r3.1 = 0 then
    (hb_on r3.2 x0 9 (f_X9_laysRetained x0 r3.2)).bind fun r5 =>
    (hb_on r5 x0 9 (f_X9_groupSet x0 x1 (0 : Int32) r5)).bind fun r6 =>
    (hb_getL r6.2 x0 9 11).bind fun r7 =>
    f_X9_meanRetainedBits_b40 hb_FU x0 (r6.1 &&& r7) (0 : Int64) (0 : Int32) r6.2
  else
    some ((0 : Int64), r3.2)
def f_Jxf58ca_isNaN_12338 (x0 : UInt32) (σ : hb_M) : Option (Int32 × hb_M) :=
  if (Op.cmpValue (FP.fcmp x0 x0) .l) = 0 then
    some ((0 : Int32), σ)
  else
    some ((1 : Int32), σ)
def f_Jxf58ca_floatToIntBits_5c35a (x0 : UInt32) (σ : hb_M) : Option (Int32 × hb_M) :=
  (f_Jxf58ca_isNaN_12338 x0 σ).bind fun r1 =>
  if r1.1 = 0 then
    some (x0.toInt32, r1.2)
  else
    some ((2143289344 : Int32), r1.2)
def f_X9_shareBits_b50 (s0 : UInt32) (σ : hb_M) : Option (Int32 × hb_M) :=
  (f_Jxf58ca_floatToIntBits_5c35a s0 σ).bind fun r1 =>
  some (r1.1, r1.2)
def f_X9_shareBits (x0 : Nat) (x1 : Int32) (σ : hb_M) : Option (Int32 × hb_M) :=
  (hb_on σ x0 9 (f_X9_isObject x0 x1 σ)).bind fun r1 =>
  (hb_on r1.2 x0 9 (f_X9_need x0 r1.1 r1.2)).bind fun r2 =>
  (hb_on r2.2 x0 9 (f_X9_refused x0 r2.1 r2.2)).bind fun r3 =>
  if r3.1 = 0 then
    (hb_on r3.2 x0 9 (f_X9_laysRetained x0 r3.2)).bind fun r5 =>
    (hb_on r5 x0 9 (f_X9_isReached x0 x1 r5)).bind fun r6 =>
    if r6.1 = 0 then
      f_X9_shareBits_b50 FP.fconst0 r6.2
    else
      (hb_on r6.2 x0 9 (f_X9_retainedBy x0 x1 r6.2)).bind fun r8 =>
      (hb_getL r8.2 x0 9 11).bind fun r9 =>
      (hb_on r8.2 x0 9 (f_X9_sizes x0 r9 r8.2)).bind fun r10 =>
      if ¬ ((FP.fdiv (FP.i2f r8.1) (FP.l2f r10.1)) &&& 0x7fffffff ≤ 0x7f800000) then none else
      f_X9_shareBits_b50 (FP.fdiv (FP.i2f r8.1) (FP.l2f r10.1)) r10.2
  else
    some ((0 : Int32), r3.2)
def f_X9_isHeavy (x0 : Nat) (x1 : Int32) (x2 : Int32) (σ : hb_M) : Option (Int32 × hb_M) :=
  (hb_on σ x0 9 (f_X9_isReached x0 x1 σ)).bind fun r1 =>
  if r1.1 = 0 then
    some ((0 : Int32), r1.2)
  else
    (hb_on r1.2 x0 9 (f_X9_retainedBy x0 x1 r1.2)).bind fun r3 =>
    (hb_getL r3.2 x0 9 11).bind fun r4 =>
    (hb_on r3.2 x0 9 (f_X9_sizes x0 r4 r3.2)).bind fun r5 =>
    if (lg_cmp (r3.1.toInt64 * (100 : Int64)) (x2.toInt64 * r5.1)) < 0 then
      some ((0 : Int32), r5.2)
    else
      some ((1 : Int32), r5.2)
def f_X9_isSuspect_b55 (k10 : Nat → Int32 → Int32 → Int32 → Int32 → hb_M → Option (Int32 × hb_M)) (x0 : Nat) (x1 : Int32) (x2 : Int32) (x4 : Int32) (s0 : Int32) (σ : hb_M) : Option (Int32 × hb_M) :=
  k10 x0 x1 x2 s0 (x4 + (1 : Int32)) σ
def f_X9_isSuspect_b50 (k10 : Nat → Int32 → Int32 → Int32 → Int32 → hb_M → Option (Int32 × hb_M)) (x0 : Nat) (x1 : Int32) (x2 : Int32) (x4 : Int32) (σ : hb_M) : Option (Int32 × hb_M) :=
  f_X9_isSuspect_b55 k10 x0 x1 x2 x4 (1 : Int32) σ
def f_X9_isSuspect_b10 : Nat → Nat → Int32 → Int32 → Int32 → Int32 → hb_M → Option (Int32 × hb_M)
  | 0, _, _, _, _, _, _ => none
  | n + 1, x0, x1, x2, x3, x4, σ =>
    if (40 : Int32) ≤ x4 then
      hb_zr x3 σ
    else
      if x3 = 0 then
        hb_zr x3 σ
      else
        (hb_on σ x0 9 (f_X9_isReached x0 x4 σ)).bind fun r3 =>
        if r3.1 = 0 then
          f_X9_isSuspect_b50 (f_X9_isSuspect_b10 n) x0 x1 x2 x4 r3.2
        else
          (hb_on r3.2 x0 9 (f_X9_immediate x0 x4 r3.2)).bind fun r5 =>
          if r5.1 = x1 then
            (hb_on r5.2 x0 9 (f_X9_isHeavy x0 x4 x2 r5.2)).bind fun r7 =>
            if r7.1 = 0 then
              f_X9_isSuspect_b50 (f_X9_isSuspect_b10 n) x0 x1 x2 x4 r7.2
            else
              f_X9_isSuspect_b55 (f_X9_isSuspect_b10 n) x0 x1 x2 x4 (0 : Int32) r7.2
          else
            f_X9_isSuspect_b50 (f_X9_isSuspect_b10 n) x0 x1 x2 x4 r5.2
def f_X9_isSuspect (x0 : Nat) (x1 : Int32) (x2 : Int32) (σ : hb_M) : Option (Int32 × hb_M) :=
  (hb_on σ x0 9 (f_X9_isHeavy x0 x1 x2 σ)).bind fun r1 =>
  f_X9_isSuspect_b10 hb_FU x0 x1 x2 r1.1 (0 : Int32) r1.2
def f_X9_suspectAt_b144 (k30 : Nat → Int32 → Int32 → Int32 → hb_M → Option (Int32 × hb_M)) (x0 : Nat) (x1 : Int32) (x2 : Int32) (x3 : Int32) (σ : hb_M) : Option (Int32 × hb_M) :=
  k30 x0 x1 x2 (x3 + (1 : Int32)) σ
def f_X9_suspectAt_b127 (k30 : Nat → Int32 → Int32 → Int32 → hb_M → Option (Int32 × hb_M)) (k51 : Nat → Int32 → Int32 → Int32 → Int32 → Int32 → hb_M → Option (Int32 × hb_M)) (x0 : Nat) (x1 : Int32) (x2 : Int32) (x3 : Int32) (x5 : Int32) (s0 : Int32) (s1 : Int32) (σ : hb_M) : Option (Int32 × hb_M) :=
  k51 x0 x1 x2 x3 (s0 + s1) (x5 + (1 : Int32)) σ
def f_X9_suspectAt_b126 (k30 : Nat → Int32 → Int32 → Int32 → hb_M → Option (Int32 × hb_M)) (k51 : Nat → Int32 → Int32 → Int32 → Int32 → Int32 → hb_M → Option (Int32 × hb_M)) (x0 : Nat) (x1 : Int32) (x2 : Int32) (x3 : Int32) (x5 : Int32) (s0 : Int32) (σ : hb_M) : Option (Int32 × hb_M) :=
  f_X9_suspectAt_b127 k30 k51 x0 x1 x2 x3 x5 s0 (0 : Int32) σ
def f_X9_suspectAt_b97 (k30 : Nat → Int32 → Int32 → Int32 → hb_M → Option (Int32 × hb_M)) (k51 : Nat → Int32 → Int32 → Int32 → Int32 → Int32 → hb_M → Option (Int32 × hb_M)) (x0 : Nat) (x1 : Int32) (x2 : Int32) (x3 : Int32) (x4 : Int32) (x5 : Int32) (s0 : Int32) (σ : hb_M) : Option (Int32 × hb_M) :=
  if x5 = x3 then
    f_X9_suspectAt_b126 k30 k51 x0 x1 x2 x3 x5 x4 σ
  else
    if s0 = 0 then
      f_X9_suspectAt_b126 k30 k51 x0 x1 x2 x3 x5 x4 σ
    else
      (hb_on σ x0 9 (f_X9_isSuspect x0 x5 x1 σ)).bind fun r3 =>
      if r3.1 = 0 then
        f_X9_suspectAt_b126 k30 k51 x0 x1 x2 x3 x5 x4 r3.2
      else
        f_X9_suspectAt_b127 k30 k51 x0 x1 x2 x3 x5 x4 (1 : Int32) r3.2
def f_X9_suspectAt_b92 (k30 : Nat → Int32 → Int32 → Int32 → hb_M → Option (Int32 × hb_M)) (k51 : Nat → Int32 → Int32 → Int32 → Int32 → Int32 → hb_M → Option (Int32 × hb_M)) (x0 : Nat) (x1 : Int32) (x2 : Int32) (x3 : Int32) (x4 : Int32) (x5 : Int32) (σ : hb_M) : Option (Int32 × hb_M) :=
  f_X9_suspectAt_b97 k30 k51 x0 x1 x2 x3 x4 x5 (1 : Int32) σ
def f_X9_suspectAt_b96 (k30 : Nat → Int32 → Int32 → Int32 → hb_M → Option (Int32 × hb_M)) (k51 : Nat → Int32 → Int32 → Int32 → Int32 → Int32 → hb_M → Option (Int32 × hb_M)) (x0 : Nat) (x1 : Int32) (x2 : Int32) (x3 : Int32) (x4 : Int32) (x5 : Int32) (σ : hb_M) : Option (Int32 × hb_M) :=
  f_X9_suspectAt_b97 k30 k51 x0 x1 x2 x3 x4 x5 (0 : Int32) σ
def f_X9_suspectAt_b51 (k30 : Nat → Int32 → Int32 → Int32 → hb_M → Option (Int32 × hb_M)) : Nat → Nat → Int32 → Int32 → Int32 → Int32 → Int32 → hb_M → Option (Int32 × hb_M)
  | 0, _, _, _, _, _, _, _ => none
  | n + 1, x0, x1, x2, x3, x4, x5, σ =>
    if (40 : Int32) ≤ x5 then
      if x4 = x2 then
        some (x3, σ)
      else
        f_X9_suspectAt_b144 k30 x0 x1 x2 x3 σ
    else
      (hb_on σ x0 9 (f_X9_retainedBy x0 x5 σ)).bind fun r3 =>
      (hb_on r3.2 x0 9 (f_X9_retainedBy x0 x3 r3.2)).bind fun r4 =>
      if r4.1 < r3.1 then
        f_X9_suspectAt_b92 k30 (f_X9_suspectAt_b51 k30 n) x0 x1 x2 x3 x4 x5 r4.2
      else
        (hb_on r4.2 x0 9 (f_X9_retainedBy x0 x5 r4.2)).bind fun r6 =>
        (hb_on r6.2 x0 9 (f_X9_retainedBy x0 x3 r6.2)).bind fun r7 =>
        if r6.1 = r7.1 then
          if x3 ≤ x5 then
            f_X9_suspectAt_b96 k30 (f_X9_suspectAt_b51 k30 n) x0 x1 x2 x3 x4 x5 r7.2
          else
            f_X9_suspectAt_b92 k30 (f_X9_suspectAt_b51 k30 n) x0 x1 x2 x3 x4 x5 r7.2
        else
          f_X9_suspectAt_b96 k30 (f_X9_suspectAt_b51 k30 n) x0 x1 x2 x3 x4 x5 r7.2
def f_X9_suspectAt_b30 : Nat → Nat → Int32 → Int32 → Int32 → hb_M → Option (Int32 × hb_M)
  | 0, _, _, _, _, _ => none
  | n + 1, x0, x1, x2, x3, σ =>
    if (40 : Int32) ≤ x3 then
      some ((-1 : Int32), σ)
    else
      (hb_on σ x0 9 (f_X9_isSuspect x0 x3 x1 σ)).bind fun r2 =>
      if r2.1 = 0 then
        f_X9_suspectAt_b144 (f_X9_suspectAt_b30 n) x0 x1 x2 x3 r2.2
      else
        f_X9_suspectAt_b51 (f_X9_suspectAt_b30 n) hb_FU x0 x1 x2 x3 (0 : Int32) (0 : Int32) r2.2
def f_X9_suspectAt_b16 (x0 : Nat) (x1 : Int32) (x2 : Int32) (s0 : Nat) (s1 : Int32) (σ : hb_M) : Option (Int32 × hb_M) :=
  (hb_on σ s0 9 (f_X9_refused s0 s1 σ)).bind fun r1 =>
  if r1.1 = 0 then
    (hb_on r1.2 x0 9 (f_X9_laysRetained x0 r1.2)).bind fun r3 =>
    f_X9_suspectAt_b30 hb_FU x0 x1 x2 (0 : Int32) r3
  else
    some ((0 : Int32), r1.2)
def f_X9_suspectAt (x0 : Nat) (x1 : Int32) (x2 : Int32) (σ : hb_M) : Option (Int32 × hb_M) :=
  (f_X9_within x1 (1 : Int32) (100 : Int32) σ).bind fun r1 =>
  if r1.1 = 0 then
    f_X9_suspectAt_b16 x0 x1 x2 x0 (1 : Int32) r1.2
  else
    f_X9_suspectAt_b16 x0 x1 x2 x0 (0 : Int32) r1.2
def f_X9_accumulationPoint_b170 (k65 : Nat → Int32 → Int32 → Int32 → hb_M → Option (Int32 × hb_M)) (k80 : Nat → Int32 → Int32 → Int32 → Int32 → hb_M → Option (Int32 × hb_M)) (x0 : Nat) (x2 : Int32) (x3 : Int32) (x5 : Int32) (s0 : Int32) (σ : hb_M) : Option (Int32 × hb_M) :=
  k80 x0 x2 x3 s0 (x5 + (1 : Int32)) σ
def f_X9_accumulationPoint_b168 (k65 : Nat → Int32 → Int32 → Int32 → hb_M → Option (Int32 × hb_M)) (k80 : Nat → Int32 → Int32 → Int32 → Int32 → hb_M → Option (Int32 × hb_M)) (x0 : Nat) (x2 : Int32) (x3 : Int32) (x4 : Int32) (x5 : Int32) (σ : hb_M) : Option (Int32 × hb_M) :=
  f_X9_accumulationPoint_b170 k65 k80 x0 x2 x3 x5 x4 σ
def f_X9_accumulationPoint_b163 (k65 : Nat → Int32 → Int32 → Int32 → hb_M → Option (Int32 × hb_M)) (k80 : Nat → Int32 → Int32 → Int32 → Int32 → hb_M → Option (Int32 × hb_M)) (x0 : Nat) (x2 : Int32) (x3 : Int32) (x5 : Int32) (σ : hb_M) : Option (Int32 × hb_M) :=
  f_X9_accumulationPoint_b170 k65 k80 x0 x2 x3 x5 x5 σ
def f_X9_accumulationPoint_b135 (k65 : Nat → Int32 → Int32 → Int32 → hb_M → Option (Int32 × hb_M)) (k80 : Nat → Int32 → Int32 → Int32 → Int32 → hb_M → Option (Int32 × hb_M)) (x0 : Nat) (x2 : Int32) (x3 : Int32) (x4 : Int32) (x5 : Int32) (s0 : Int32) (σ : hb_M) : Option (Int32 × hb_M) :=
  if s0 = 0 then
    f_X9_accumulationPoint_b168 k65 k80 x0 x2 x3 x4 x5 σ
  else
    if x4 = (-1 : Int32) then
      f_X9_accumulationPoint_b163 k65 k80 x0 x2 x3 x5 σ
    else
      (hb_on σ x0 9 (f_X9_retainedBy x0 x5 σ)).bind fun r3 =>
      (hb_on r3.2 x0 9 (f_X9_retainedBy x0 x4 r3.2)).bind fun r4 =>
      if r3.1 ≤ r4.1 then
        f_X9_accumulationPoint_b168 k65 k80 x0 x2 x3 x4 x5 r4.2
      else
        f_X9_accumulationPoint_b163 k65 k80 x0 x2 x3 x5 r4.2
def f_X9_accumulationPoint_b134 (k65 : Nat → Int32 → Int32 → Int32 → hb_M → Option (Int32 × hb_M)) (k80 : Nat → Int32 → Int32 → Int32 → Int32 → hb_M → Option (Int32 × hb_M)) (x0 : Nat) (x2 : Int32) (x3 : Int32) (x4 : Int32) (x5 : Int32) (σ : hb_M) : Option (Int32 × hb_M) :=
  f_X9_accumulationPoint_b135 k65 k80 x0 x2 x3 x4 x5 (0 : Int32) σ
def f_X9_accumulationPoint_b80 (k65 : Nat → Int32 → Int32 → Int32 → hb_M → Option (Int32 × hb_M)) : Nat → Nat → Int32 → Int32 → Int32 → Int32 → hb_M → Option (Int32 × hb_M)
  | 0, _, _, _, _, _, _ => none
  | n + 1, x0, x2, x3, x4, x5, σ =>
    if (40 : Int32) ≤ x5 then
      k65 x0 x2 x3 x4 σ
    else
      (hb_on σ x0 9 (f_X9_isReached x0 x5 σ)).bind fun r2 =>
      if r2.1 = 0 then
        f_X9_accumulationPoint_b134 k65 (f_X9_accumulationPoint_b80 k65 n) x0 x2 x3 x4 x5 r2.2
      else
        (hb_on r2.2 x0 9 (f_X9_immediate x0 x5 r2.2)).bind fun r4 =>
        if r4.1 = x3 then
          (hb_on r4.2 x0 9 (f_X9_retainedBy x0 x5 r4.2)).bind fun r6 =>
          (hb_on r6.2 x0 9 (f_X9_retainedBy x0 x3 r6.2)).bind fun r7 =>
          if (lg_cmp (r6.1.toInt64 * (100 : Int64)) (x2.toInt64 * r7.1.toInt64)) < 0 then
            f_X9_accumulationPoint_b134 k65 (f_X9_accumulationPoint_b80 k65 n) x0 x2 x3 x4 x5 r7.2
          else
            f_X9_accumulationPoint_b135 k65 (f_X9_accumulationPoint_b80 k65 n) x0 x2 x3 x4 x5 (1 : Int32) r7.2
        else
          f_X9_accumulationPoint_b134 k65 (f_X9_accumulationPoint_b80 k65 n) x0 x2 x3 x4 x5 r4.2
def f_X9_accumulationPoint_b65 : Nat → Nat → Int32 → Int32 → Int32 → hb_M → Option (Int32 × hb_M)
  | 0, _, _, _, _, _ => none
  | n + 1, x0, x2, x3, x4, σ =>
    if x4 = (-1 : Int32) then
      some (x3, σ)
    else
      f_X9_accumulationPoint_b80 (f_X9_accumulationPoint_b65 n) hb_FU x0 x2 x4 (-1 : Int32) (0 : Int32) σ
def f_X9_accumulationPoint_b52 (x0 : Nat) (x1 : Int32) (x2 : Int32) (s0 : Nat) (s1 : Int32) (σ : hb_M) : Option (Int32 × hb_M) :=
  (hb_on σ s0 9 (f_X9_refused s0 s1 σ)).bind fun r1 =>
  if r1.1 = 0 then
    f_X9_accumulationPoint_b65 hb_FU x0 x2 x1 x1 r1.2
  else
    some ((0 : Int32), r1.2)
def f_X9_accumulationPoint_b12 (x0 : Nat) (x1 : Int32) (x2 : Int32) (σ : hb_M) : Option (Int32 × hb_M) :=
  (hb_on σ x0 9 (f_X9_isObject x0 x1 σ)).bind fun r1 =>
  if r1.1 = 0 then
    f_X9_accumulationPoint_b52 x0 x1 x2 x0 (1 : Int32) r1.2
  else
    (f_X9_within x2 (1 : Int32) (100 : Int32) r1.2).bind fun r3 =>
    if r3.1 = 0 then
      f_X9_accumulationPoint_b52 x0 x1 x2 x0 (2 : Int32) r3.2
    else
      (hb_on r3.2 x0 9 (f_X9_isReached x0 x1 r3.2)).bind fun r5 =>
      if r5.1 = 0 then
        f_X9_accumulationPoint_b52 x0 x1 x2 x0 (3 : Int32) r5.2
      else
        f_X9_accumulationPoint_b52 x0 x1 x2 x0 (0 : Int32) r5.2
def f_X9_accumulationPoint (x0 : Nat) (x1 : Int32) (x2 : Int32) (σ : hb_M) : Option (Int32 × hb_M) :=
  (hb_on σ x0 9 (f_X9_isObject x0 x1 σ)).bind fun r1 =>
  if r1.1 = 0 then
    f_X9_accumulationPoint_b12 x0 x1 x2 r1.2
  else
    (hb_on r1.2 x0 9 (f_X9_laysRetained x0 r1.2)).bind fun r3 =>
    f_X9_accumulationPoint_b12 x0 x1 x2 r3
def f_X9_append_b29 (x0 : Nat) (x1 : Int32) (s0 : Nat) (s1 : Int32) (σ : hb_M) : Option (Int32 × hb_M) :=
  (hb_on σ s0 9 (f_X9_refused s0 s1 σ)).bind fun r1 =>
  if r1.1 = 0 then
    (hb_getR r1.2 x0 9 5).bind fun r3 =>
    (hb_getI r1.2 x0 9 6).bind fun r4 =>
    (hb_iast r1.2 r3 r4 x1).bind fun r5 =>
    (hb_getI r5 x0 9 6).bind fun r6 =>
    (hb_putI r5 x0 9 6 (r6 + (1 : Int32))).bind fun r7 =>
    (hb_getI r7 x0 9 6).bind fun r8 =>
    some (r8, r7)
  else
    some ((0 : Int32), r1.2)
def f_X9_append (x0 : Nat) (x1 : Int32) (σ : hb_M) : Option (Int32 × hb_M) :=
  (f_X9_within x1 (0 : Int32) (127 : Int32) σ).bind fun r1 =>
  if r1.1 = 0 then
    f_X9_append_b29 x0 x1 x0 (1 : Int32) r1.2
  else
    (hb_getI r1.2 x0 9 6).bind fun r3 =>
    if r3 = (100 : Int32) then
      f_X9_append_b29 x0 x1 x0 (2 : Int32) r1.2
    else
      f_X9_append_b29 x0 x1 x0 (0 : Int32) r1.2
def f_X9_clearText (x0 : Nat) (σ : hb_M) : Option (Int32 × hb_M) :=
  (hb_putI σ x0 9 4 (0 : Int32)).bind fun r1 =>
  (hb_getI r1 x0 9 6).bind fun r2 =>
  (hb_putI r1 x0 9 6 (0 : Int32)).bind fun r3 =>
  some (r2, r3)
def f_X9_gives (x0 : Nat) (x1 : Int32) (x2 : Int32) (x3 : Int32) (σ : hb_M) : Option hb_M :=
  (hb_getR σ x0 9 16).bind fun r1 =>
  (hb_getI σ x0 9 19).bind fun r2 =>
  (hb_iast σ r1 r2 x1).bind fun r3 =>
  (hb_getR r3 x0 9 17).bind fun r4 =>
  (hb_getI r3 x0 9 19).bind fun r5 =>
  (hb_iast r3 r4 r5 x2).bind fun r6 =>
  (hb_getR r6 x0 9 18).bind fun r7 =>
  (hb_getI r6 x0 9 19).bind fun r8 =>
  (hb_iast r6 r7 r8 x3).bind fun r9 =>
  (hb_getI r9 x0 9 19).bind fun r10 =>
  (hb_putI r9 x0 9 19 (r10 + (1 : Int32))).bind fun r11 =>
  some r11
def f_X9_waits (x0 : Nat) (x1 : Int32) (σ : hb_M) : Option hb_M :=
  (hb_getR σ x0 9 20).bind fun r1 =>
  (hb_getI σ x0 9 21).bind fun r2 =>
  (hb_iast σ r1 r2 x1).bind fun r3 =>
  (hb_getI r3 x0 9 21).bind fun r4 =>
  (hb_putI r3 x0 9 21 (r4 + (1 : Int32))).bind fun r5 =>
  some r5
def f_X9_comesOut_b0 : Nat → Nat → Int32 → hb_M → Option hb_M
  | 0, _, _, _ => none
  | n + 1, x0, x1, σ =>
    (hb_getI σ x0 9 21).bind fun r1 =>
    if r1 ≤ 0 then
      some σ
    else
      (hb_getR σ x0 9 20).bind fun r3 =>
      (hb_getI σ x0 9 21).bind fun r4 =>
      (hb_iald σ r3 (r4 - (1 : Int32))).bind fun r5 =>
      if r5 = (203 : Int32) then
        some σ
      else
        (hb_getR σ x0 9 20).bind fun r7 =>
        (hb_getI σ x0 9 21).bind fun r8 =>
        (hb_iald σ r7 (r8 - (1 : Int32))).bind fun r9 =>
        if x1 < r9 then
          some σ
        else
          (hb_getI σ x0 9 21).bind fun r11 =>
          (hb_putI σ x0 9 21 (r11 - (1 : Int32))).bind fun r12 =>
          (hb_getR r12 x0 9 20).bind fun r13 =>
          (hb_getI r12 x0 9 21).bind fun r14 =>
          (hb_iald r12 r13 r14).bind fun r15 =>
          (hb_on r12 x0 9 (f_X9_gives x0 r15 (0 : Int32) (0 : Int32) r12)).bind fun r16 =>
          f_X9_comesOut_b0 n x0 x1 r16
def f_X9_comesOut (x0 : Nat) (x1 : Int32) (σ : hb_M) : Option hb_M :=
  f_X9_comesOut_b0 hb_FU x0 x1 σ
def f_X9_letter (x0 : Nat) (x1 : Int32) (σ : hb_M) : Option (Int32 × hb_M) :=
  (hb_getI σ x0 9 6).bind fun r1 =>
  if r1 ≤ x1 then
    some ((-1 : Int32), σ)
  else
    (hb_getR σ x0 9 5).bind fun r3 =>
    (hb_iald σ r3 x1).bind fun r4 =>
    some (r4, σ)
def f_X9_isDigit (x0 : Int32) (σ : hb_M) : Option (Int32 × hb_M) :=
  (f_X9_within x0 (48 : Int32) (57 : Int32) σ).bind fun r1 =>
  hb_zr r1.1 r1.2
def f_X9_isValue (x0 : Int32) (σ : hb_M) : Option (Int32 × hb_M) :=
  if x0 = (115 : Int32) then
    some ((1 : Int32), σ)
  else
    if x0 = (114 : Int32) then
      some ((1 : Int32), σ)
    else
      if x0 = (100 : Int32) then
        some ((1 : Int32), σ)
      else
        if x0 = (105 : Int32) then
          some ((1 : Int32), σ)
        else
          if x0 = (111 : Int32) then
            some ((1 : Int32), σ)
          else
            if x0 = (97 : Int32) then
              some ((1 : Int32), σ)
            else
              if x0 = (110 : Int32) then
                some ((1 : Int32), σ)
              else
                if x0 = (103 : Int32) then
                  some ((1 : Int32), σ)
                else
                  some ((0 : Int32), σ)
def f_X9_unit_b167 (x0 : Nat) (x1 : Int32) (x2 : Int32) (x3 : Int32) (x4 : Int32) (x5 : Int32) (σ : hb_M) : Option (Int32 × hb_M) :=
  if x4 = (x1 + (2 : Int32)) then
    some (x4, σ)
  else
    (hb_on σ x0 9 (f_X9_gives x0 x2 x3 x5 σ)).bind fun r2 =>
    (hb_putI r2 x0 9 22 x4).bind fun r3 =>
    some ((-1 : Int32), r3)
def f_X9_unit_b123 : Nat → Nat → Int32 → Int32 → Int32 → Int32 → Int32 → hb_M → Option (Int32 × hb_M)
  | 0, _, _, _, _, _, _, _ => none
  | n + 1, x0, x1, x2, x3, x4, x5, σ =>
    if (x1 + (6 : Int32)) ≤ x4 then
      f_X9_unit_b167 x0 x1 x2 x3 x4 x5 σ
    else
      (hb_on σ x0 9 (f_X9_letter x0 x4 σ)).bind fun r2 =>
      (f_X9_isDigit r2.1 r2.2).bind fun r3 =>
      if r3.1 = 0 then
        f_X9_unit_b167 x0 x1 x2 x3 x4 x5 r3.2
      else
        (hb_on r3.2 x0 9 (f_X9_letter x0 x4 r3.2)).bind fun r5 =>
        f_X9_unit_b123 n x0 x1 x2 x3 (x4 + (1 : Int32)) ((((10 : Int32) * x5) + r5.1) - (48 : Int32)) r5.2
def f_X9_unit_b115 (x0 : Nat) (x1 : Int32) (x2 : Int32) (x3 : Int32) (σ : hb_M) : Option (Int32 × hb_M) :=
  f_X9_unit_b123 hb_FU x0 x1 x2 x3 (x1 + (2 : Int32)) (0 : Int32) σ
def f_X9_unit (x0 : Nat) (x1 : Int32) (σ : hb_M) : Option (Int32 × hb_M) :=
  (hb_on σ x0 9 (f_X9_letter x0 x1 σ)).bind fun r1 =>
  if r1.1 = (42 : Int32) then
    (hb_on r1.2 x0 9 (f_X9_gives x0 r1.1 (0 : Int32) (0 : Int32) r1.2)).bind fun r16 =>
    (hb_putI r16 x0 9 22 (x1 + (1 : Int32))).bind fun r17 =>
    some ((-1 : Int32), r17)
  else
    if r1.1 = (64 : Int32) then
      (hb_on r1.2 x0 9 (f_X9_letter x0 (x1 + (1 : Int32)) r1.2)).bind fun r10 =>
      (f_X9_isDigit r10.1 r10.2).bind fun r11 =>
      if r11.1 = 0 then
        some ((x1 + (1 : Int32)), r11.2)
      else
        (hb_on r11.2 x0 9 (f_X9_letter x0 (x1 + (1 : Int32)) r11.2)).bind fun r13 =>
        (hb_on r13.2 x0 9 (f_X9_gives x0 r1.1 (0 : Int32) (r13.1 - (48 : Int32)) r13.2)).bind fun r14 =>
        (hb_putI r14 x0 9 22 (x1 + (2 : Int32))).bind fun r15 =>
        some ((-1 : Int32), r15)
    else
      (f_X9_isValue r1.1 r1.2).bind fun r4 =>
      if r4.1 = 0 then
        some (x1, r4.2)
      else
        (hb_on r4.2 x0 9 (f_X9_letter x0 (x1 + (1 : Int32)) r4.2)).bind fun r6 =>
        if r6.1 = (60 : Int32) then
          f_X9_unit_b115 x0 x1 r1.1 r6.1 r6.2
        else
          if r6.1 = (61 : Int32) then
            f_X9_unit_b115 x0 x1 r1.1 r6.1 r6.2
          else
            if r6.1 = (62 : Int32) then
              f_X9_unit_b115 x0 x1 r1.1 r6.1 r6.2
            else
              some ((x1 + (1 : Int32)), r6.2)
def f_X9_reads_b236 (k16 : Nat → Int32 → Int32 → Int32 → hb_M → Option (Int32 × hb_M)) (x0 : Nat) (x1 : Int32) (x2 : Int32) (x3 : Int32) (σ : hb_M) : Option (Int32 × hb_M) :=
  k16 x0 x1 x2 x3 σ
def f_X9_reads_b179 (k16 : Nat → Int32 → Int32 → Int32 → hb_M → Option (Int32 × hb_M)) (x0 : Nat) (x1 : Int32) (x3 : Int32) (s0 : Nat) (s1 : Int32) (σ : hb_M) : Option (Int32 × hb_M) :=
  (hb_on σ s0 9 (f_X9_waits s0 s1 σ)).bind fun r1 =>
  f_X9_reads_b236 k16 x0 x1 (1 : Int32) (x3 + (1 : Int32)) r1
def f_X9_reads_b159 (k16 : Nat → Int32 → Int32 → Int32 → hb_M → Option (Int32 × hb_M)) (x0 : Nat) (x1 : Int32) (x3 : Int32) (x4 : Int32) (s0 : Nat) (s1 : Int32) (σ : hb_M) : Option (Int32 × hb_M) :=
  (hb_on σ s0 9 (f_X9_comesOut s0 s1 σ)).bind fun r1 =>
  if x4 = (38 : Int32) then
    f_X9_reads_b179 k16 x0 x1 x3 x0 (201 : Int32) r1
  else
    f_X9_reads_b179 k16 x0 x1 x3 x0 (202 : Int32) r1
def f_X9_reads_b142 (k16 : Nat → Int32 → Int32 → Int32 → hb_M → Option (Int32 × hb_M)) (x0 : Nat) (x1 : Int32) (x3 : Int32) (x4 : Int32) (σ : hb_M) : Option (Int32 × hb_M) :=
  if x4 = (38 : Int32) then
    f_X9_reads_b159 k16 x0 x1 x3 x4 x0 (201 : Int32) σ
  else
    f_X9_reads_b159 k16 x0 x1 x3 x4 x0 (202 : Int32) σ
def f_X9_reads_b91 (k16 : Nat → Int32 → Int32 → Int32 → hb_M → Option (Int32 × hb_M)) (x0 : Nat) (x1 : Int32) (x2 : Int32) (x3 : Int32) (x4 : Int32) (σ : hb_M) : Option (Int32 × hb_M) :=
  if x2 = 0 then
    if x4 = (38 : Int32) then
      f_X9_reads_b142 k16 x0 x1 x3 x4 σ
    else
      if x4 = (124 : Int32) then
        f_X9_reads_b142 k16 x0 x1 x3 x4 σ
      else
        if x4 = (41 : Int32) then
          if x1 ≤ 0 then
            some (x3, σ)
          else
            (hb_on σ x0 9 (f_X9_comesOut x0 (202 : Int32) σ)).bind fun r6 =>
            (hb_getI r6 x0 9 21).bind fun r7 =>
            (hb_putI r6 x0 9 21 (r7 - (1 : Int32))).bind fun r8 =>
            (hb_on r8 x0 9 (f_X9_comesOut x0 (200 : Int32) r8)).bind fun r9 =>
            f_X9_reads_b236 k16 x0 (x1 + (-1 : Int32)) x2 (x3 + (1 : Int32)) r9
        else
          some (x3, σ)
  else
    (hb_on σ x0 9 (f_X9_unit x0 x3 σ)).bind fun r10 =>
    if r10.1 = (-1 : Int32) then
      (hb_getI r10.2 x0 9 22).bind fun r12 =>
      (hb_on r10.2 x0 9 (f_X9_comesOut x0 (200 : Int32) r10.2)).bind fun r13 =>
      f_X9_reads_b236 k16 x0 x1 (0 : Int32) r12 r13
    else
      some (r10.1, r10.2)
def f_X9_reads_b56 (k16 : Nat → Int32 → Int32 → Int32 → hb_M → Option (Int32 × hb_M)) (x0 : Nat) (x1 : Int32) (x2 : Int32) (x3 : Int32) (x4 : Int32) (σ : hb_M) : Option (Int32 × hb_M) :=
  if x2 = 0 then
    f_X9_reads_b91 k16 x0 x1 x2 x3 x4 σ
  else
    if x4 = (40 : Int32) then
      if x1 = (8 : Int32) then
        some (x3, σ)
      else
        (hb_on σ x0 9 (f_X9_waits x0 (203 : Int32) σ)).bind fun r4 =>
        f_X9_reads_b236 k16 x0 (x1 + (1 : Int32)) x2 (x3 + (1 : Int32)) r4
    else
      f_X9_reads_b91 k16 x0 x1 x2 x3 x4 σ
def f_X9_reads_b16 : Nat → Nat → Int32 → Int32 → Int32 → hb_M → Option (Int32 × hb_M)
  | 0, _, _, _, _, _ => none
  | n + 1, x0, x1, x2, x3, σ =>
    (hb_getI σ x0 9 6).bind fun r1 =>
    if r1 ≤ x3 then
      if x2 = 0 then
        if x1 ≤ 0 then
          (hb_on σ x0 9 (f_X9_comesOut x0 (202 : Int32) σ)).bind fun r6 =>
          some ((-1 : Int32), r6)
        else
          (hb_getI σ x0 9 6).bind fun r7 =>
          some (r7, σ)
      else
        (hb_getI σ x0 9 6).bind fun r4 =>
        some (r4, σ)
    else
      (hb_getR σ x0 9 5).bind fun r8 =>
      (hb_iald σ r8 x3).bind fun r9 =>
      if x2 = 0 then
        f_X9_reads_b56 (f_X9_reads_b16 n) x0 x1 x2 x3 r9 σ
      else
        if r9 = (33 : Int32) then
          (hb_on σ x0 9 (f_X9_waits x0 (200 : Int32) σ)).bind fun r12 =>
          f_X9_reads_b236 (f_X9_reads_b16 n) x0 x1 x2 (x3 + (1 : Int32)) r12
        else
          f_X9_reads_b56 (f_X9_reads_b16 n) x0 x1 x2 x3 r9 σ
def f_X9_reads (x0 : Nat) (σ : hb_M) : Option (Int32 × hb_M) :=
  (hb_putI σ x0 9 19 (0 : Int32)).bind fun r1 =>
  (hb_putI r1 x0 9 21 (0 : Int32)).bind fun r2 =>
  f_X9_reads_b16 hb_FU x0 (0 : Int32) (1 : Int32) (0 : Int32) r2
def f_X9_valueOf (x0 : Nat) (x1 : Int32) (x2 : Int32) (σ : hb_M) : Option (Int32 × hb_M) :=
  if x1 = (97 : Int32) then
    (hb_getR σ x0 9 0).bind fun r2 =>
    (f_X9_at x2 σ).bind fun r3 =>
    (hb_iald r3.2 r2 (r3.1 + (3 : Int32))).bind fun r4 =>
    some (r4, r3.2)
  else if x1 = (100 : Int32) then
    (hb_getR σ x0 9 13).bind fun r6 =>
    (hb_iald σ r6 x2).bind fun r7 =>
    if r7 = (-1 : Int32) then
      some ((99 : Int32), σ)
    else
      (hb_getR σ x0 9 13).bind fun r9 =>
      (hb_iald σ r9 x2).bind fun r10 =>
      some (r10, σ)
  else if x1 = (105 : Int32) then
    (hb_on σ x0 9 (f_X9_referencesTo x0 x2 σ)).bind fun r12 =>
    some (r12.1, r12.2)
  else if x1 = (110 : Int32) then
    some (x2, σ)
  else if x1 = (111 : Int32) then
    (hb_on σ x0 9 (f_X9_referencesFrom x0 x2 σ)).bind fun r15 =>
    some (r15.1, r15.2)
  else if x1 = (114 : Int32) then
    (hb_on σ x0 9 (f_X9_retainedBy x0 x2 σ)).bind fun r17 =>
    some (r17.1, r17.2)
  else if x1 = (115 : Int32) then
    (hb_on σ x0 9 (f_X9_sizeOf x0 x2 σ)).bind fun r19 =>
    some (r19.1, r19.2)
  else 
    (hb_getR σ x0 9 0).bind fun r20 =>
    (f_X9_at x2 σ).bind fun r21 =>
    (hb_iald r21.2 r20 (r21.1 + (1 : Int32))).bind fun r22 =>
    some (r22, r21.2)
def f_X9_isSo (x0 : Nat) (x1 : Int32) (x2 : Int32) (σ : hb_M) : Option (Int32 × hb_M) :=
  (hb_getR σ x0 9 16).bind fun r1 =>
  (hb_iald σ r1 x1).bind fun r2 =>
  if r2 = (42 : Int32) then
    (hb_getR σ x0 9 0).bind fun r36 =>
    (f_X9_at x2 σ).bind fun r37 =>
    (hb_iald r37.2 r36 (r37.1 + (4 : Int32))).bind fun r38 =>
    if r38 = 0 then
      some ((0 : Int32), r37.2)
    else
      some ((1 : Int32), r37.2)
  else
    (hb_getR σ x0 9 16).bind fun r4 =>
    (hb_iald σ r4 x1).bind fun r5 =>
    if r5 = (64 : Int32) then
      (hb_getR σ x0 9 0).bind fun r25 =>
      (f_X9_at x2 σ).bind fun r26 =>
      (hb_iald r26.2 r25 (r26.1 + (1 : Int32))).bind fun r27 =>
      if (10 : Int32) ≤ r27 then
        some ((0 : Int32), r26.2)
      else
        (hb_getR r26.2 x0 9 0).bind fun r29 =>
        (f_X9_at x2 r26.2).bind fun r30 =>
        (hb_iald r30.2 r29 (r30.1 + (1 : Int32))).bind fun r31 =>
        (hb_getR r30.2 x0 9 18).bind fun r32 =>
        (hb_iald r30.2 r32 x1).bind fun r33 =>
        (hb_on r30.2 x0 9 (f_X9_isBelow x0 r31 r33 r30.2)).bind fun r34 =>
        if r34.1 = 0 then
          some ((0 : Int32), r34.2)
        else
          some ((1 : Int32), r34.2)
    else
      (hb_getR σ x0 9 16).bind fun r7 =>
      (hb_iald σ r7 x1).bind fun r8 =>
      (hb_on σ x0 9 (f_X9_valueOf x0 r8 x2 σ)).bind fun r9 =>
      (hb_getR r9.2 x0 9 17).bind fun r10 =>
      (hb_iald r9.2 r10 x1).bind fun r11 =>
      if r11 = (60 : Int32) then
        (hb_getR r9.2 x0 9 18).bind fun r22 =>
        (hb_iald r9.2 r22 x1).bind fun r23 =>
        if r23 ≤ r9.1 then
          some ((0 : Int32), r9.2)
        else
          some ((1 : Int32), r9.2)
      else
        (hb_getR r9.2 x0 9 17).bind fun r13 =>
        (hb_iald r9.2 r13 x1).bind fun r14 =>
        if r14 = (61 : Int32) then
          (hb_getR r9.2 x0 9 18).bind fun r19 =>
          (hb_iald r9.2 r19 x1).bind fun r20 =>
          if r9.1 = r20 then
            some ((1 : Int32), r9.2)
          else
            some ((0 : Int32), r9.2)
        else
          (hb_getR r9.2 x0 9 18).bind fun r16 =>
          (hb_iald r9.2 r16 x1).bind fun r17 =>
          if r9.1 ≤ r17 then
            some ((0 : Int32), r9.2)
          else
            some ((1 : Int32), r9.2)
def f_X9_isTrue_b153 (k4 : Nat → Int32 → Int32 → Int32 → hb_M → Option (Int32 × hb_M)) (x0 : Nat) (x1 : Int32) (x2 : Int32) (x3 : Int32) (σ : hb_M) : Option (Int32 × hb_M) :=
  k4 x0 x1 x2 (x3 + (1 : Int32)) σ
def f_X9_isTrue_b152 (k4 : Nat → Int32 → Int32 → Int32 → hb_M → Option (Int32 × hb_M)) (x0 : Nat) (x1 : Int32) (x2 : Int32) (x3 : Int32) (s0 : Nat) (s1 : Int32) (s2 : Int32) (σ : hb_M) : Option (Int32 × hb_M) :=
  (hb_zast σ s0 s1 s2).bind fun r1 =>
  f_X9_isTrue_b153 k4 x0 x1 x2 x3 r1
def f_X9_isTrue_b147 (k4 : Nat → Int32 → Int32 → Int32 → hb_M → Option (Int32 × hb_M)) (x0 : Nat) (x1 : Int32) (x2 : Int32) (x3 : Int32) (s0 : Nat) (s1 : Int32) (σ : hb_M) : Option (Int32 × hb_M) :=
  f_X9_isTrue_b152 k4 x0 x1 x2 x3 s0 s1 (1 : Int32) σ
def f_X9_isTrue_b123 (k4 : Nat → Int32 → Int32 → Int32 → hb_M → Option (Int32 × hb_M)) (x0 : Nat) (x1 : Int32) (x2 : Int32) (x3 : Int32) (s0 : Nat) (s1 : Int32) (σ : hb_M) : Option (Int32 × hb_M) :=
  f_X9_isTrue_b152 k4 x0 x1 x2 x3 s0 s1 (0 : Int32) σ
def f_X9_isTrue_b77 (k4 : Nat → Int32 → Int32 → Int32 → hb_M → Option (Int32 × hb_M)) (x0 : Nat) (x1 : Int32) (x2 : Int32) (x3 : Int32) (s0 : Nat) (s1 : Int32) (s2 : Int32) (σ : hb_M) : Option (Int32 × hb_M) :=
  (hb_zast σ s0 s1 s2).bind fun r1 =>
  f_X9_isTrue_b153 k4 x0 x1 x2 x3 r1
def f_X9_isTrue_b4 : Nat → Nat → Int32 → Int32 → Int32 → hb_M → Option (Int32 × hb_M)
  | 0, _, _, _, _, _ => none
  | n + 1, x0, x1, x2, x3, σ =>
    (hb_getI σ x0 9 19).bind fun r1 =>
    if r1 ≤ x3 then
      (hb_getR σ x0 9 23).bind fun r3 =>
      (hb_zald σ r3 (0 : Int32)).bind fun r4 =>
      hb_zr r4 σ
    else
      (hb_getR σ x0 9 16).bind fun r5 =>
      (hb_iald σ r5 x3).bind fun r6 =>
      if (200 : Int32) ≤ r6 then
        if r6 = (200 : Int32) then
          (hb_getR σ x0 9 23).bind fun r23 =>
          (hb_getR σ x0 9 23).bind fun r24 =>
          (hb_zald σ r24 (x2 - (1 : Int32))).bind fun r25 =>
          if r25 = 0 then
            f_X9_isTrue_b77 (f_X9_isTrue_b4 n) x0 x1 x2 x3 r23 (x2 - (1 : Int32)) (1 : Int32) σ
          else
            f_X9_isTrue_b77 (f_X9_isTrue_b4 n) x0 x1 x2 x3 r23 (x2 - (1 : Int32)) (0 : Int32) σ
        else
          (hb_getR σ x0 9 23).bind fun r9 =>
          if r6 = (201 : Int32) then
            (hb_getR σ x0 9 23).bind fun r17 =>
            (hb_zald σ r17 ((x2 + (-1 : Int32)) - (1 : Int32))).bind fun r18 =>
            if r18 = 0 then
              f_X9_isTrue_b123 (f_X9_isTrue_b4 n) x0 x1 (x2 + (-1 : Int32)) x3 r9 ((x2 + (-1 : Int32)) - (1 : Int32)) σ
            else
              (hb_getR σ x0 9 23).bind fun r20 =>
              (hb_zald σ r20 (x2 + (-1 : Int32))).bind fun r21 =>
              if r21 = 0 then
                f_X9_isTrue_b123 (f_X9_isTrue_b4 n) x0 x1 (x2 + (-1 : Int32)) x3 r9 ((x2 + (-1 : Int32)) - (1 : Int32)) σ
              else
                f_X9_isTrue_b152 (f_X9_isTrue_b4 n) x0 x1 (x2 + (-1 : Int32)) x3 r9 ((x2 + (-1 : Int32)) - (1 : Int32)) (1 : Int32) σ
          else
            (hb_getR σ x0 9 23).bind fun r11 =>
            (hb_zald σ r11 ((x2 + (-1 : Int32)) - (1 : Int32))).bind fun r12 =>
            if r12 = 0 then
              (hb_getR σ x0 9 23).bind fun r14 =>
              (hb_zald σ r14 (x2 + (-1 : Int32))).bind fun r15 =>
              if r15 = 0 then
                f_X9_isTrue_b152 (f_X9_isTrue_b4 n) x0 x1 (x2 + (-1 : Int32)) x3 r9 ((x2 + (-1 : Int32)) - (1 : Int32)) (0 : Int32) σ
              else
                f_X9_isTrue_b147 (f_X9_isTrue_b4 n) x0 x1 (x2 + (-1 : Int32)) x3 r9 ((x2 + (-1 : Int32)) - (1 : Int32)) σ
            else
              f_X9_isTrue_b147 (f_X9_isTrue_b4 n) x0 x1 (x2 + (-1 : Int32)) x3 r9 ((x2 + (-1 : Int32)) - (1 : Int32)) σ
      else
        (hb_getR σ x0 9 23).bind fun r27 =>
        (hb_on σ x0 9 (f_X9_isSo x0 x3 x1 σ)).bind fun r28 =>
        (hb_zast r28.2 r27 x2 r28.1).bind fun r29 =>
        f_X9_isTrue_b153 (f_X9_isTrue_b4 n) x0 x1 (x2 + (1 : Int32)) x3 r29
def f_X9_isTrue (x0 : Nat) (x1 : Int32) (σ : hb_M) : Option (Int32 × hb_M) :=
  f_X9_isTrue_b4 hb_FU x0 x1 (0 : Int32) (0 : Int32) σ
def f_X9_laysMatches_b69 (k35 : Nat → Int32 → hb_M → Option (Int32 × hb_M)) (x0 : Nat) (x2 : Int32) (s0 : Nat) (s1 : Int64) (s2 : Int64) (σ : hb_M) : Option (Int32 × hb_M) :=
  (hb_putL σ s0 9 24 (s1 ||| s2)).bind fun r1 =>
  k35 x0 (x2 + (1 : Int32)) r1
def f_X9_laysMatches_b68 (k35 : Nat → Int32 → hb_M → Option (Int32 × hb_M)) (x0 : Nat) (x2 : Int32) (s0 : Nat) (s1 : Int64) (σ : hb_M) : Option (Int32 × hb_M) :=
  f_X9_laysMatches_b69 k35 x0 x2 s0 s1 (0 : Int64) σ
def f_X9_laysMatches_b35 : Nat → Nat → Int32 → hb_M → Option (Int32 × hb_M)
  | 0, _, _, _ => none
  | n + 1, x0, x2, σ =>
    if (40 : Int32) ≤ x2 then
      some ((0 : Int32), σ)
    else
      (hb_getL σ x0 9 24).bind fun r2 =>
      (hb_on σ x0 9 (f_X9_isObject x0 x2 σ)).bind fun r3 =>
      if r3.1 = 0 then
        f_X9_laysMatches_b68 (f_X9_laysMatches_b35 n) x0 x2 x0 r2 r3.2
      else
        (hb_on r3.2 x0 9 (f_X9_isTrue x0 x2 r3.2)).bind fun r5 =>
        if r5.1 = 0 then
          f_X9_laysMatches_b68 (f_X9_laysMatches_b35 n) x0 x2 x0 r2 r5.2
        else
          f_X9_laysMatches_b69 (f_X9_laysMatches_b35 n) x0 x2 x0 r2 ((1 : Int64) <<< (x2.toInt64 &&& 63)) r5.2
def f_X9_laysMatches (x0 : Nat) (σ : hb_M) : Option (Int32 × hb_M) :=
  (hb_putI σ x0 9 4 (0 : Int32)).bind fun r1 =>
  (hb_on r1 x0 9 (f_X9_reads x0 r1)).bind fun r2 =>
  if r2.1 = (-1 : Int32) then
    (hb_on r2.2 x0 9 (f_X9_laysRetained x0 r2.2)).bind fun r4 =>
    (hb_on r4 x0 9 (f_X9_laysFar x0 r4)).bind fun r5 =>
    (hb_putL r5 x0 9 24 (0 : Int64)).bind fun r6 =>
    f_X9_laysMatches_b35 hb_FU x0 (0 : Int32) r6
  else
    some (((-10 : Int32) - r2.1), r2.2)
def f_X9_matches (x0 : Nat) (σ : hb_M) : Option (Int32 × hb_M) :=
  (hb_on σ x0 9 (f_X9_laysMatches x0 σ)).bind fun r1 =>
  if 0 ≤ r1.1 then
    (hb_getL r1.2 x0 9 24).bind fun r3 =>
    (f_X9_bits r3 r1.2).bind fun r4 =>
    some (r4.1, r4.2)
  else
    some (r1.1, r1.2)
def f_X9_matchAt_b48 (k16 : Nat → Int32 → Int32 → Int32 → hb_M → Option (Int32 × hb_M)) (x0 : Nat) (x1 : Int32) (x3 : Int32) (x4 : Int32) (σ : hb_M) : Option (Int32 × hb_M) :=
  k16 x0 x1 x3 (x4 + (1 : Int32)) σ
def f_X9_matchAt_b16 : Nat → Nat → Int32 → Int32 → Int32 → hb_M → Option (Int32 × hb_M)
  | 0, _, _, _, _, _ => none
  | n + 1, x0, x1, x3, x4, σ =>
    if (40 : Int32) ≤ x4 then
      some ((-1 : Int32), σ)
    else
      (hb_getL σ x0 9 24).bind fun r2 =>
      if (lg_cmp ((r2 >>> (x4.toInt64 &&& 63)) &&& (1 : Int64)) (1 : Int64)) = 0 then
        if x3 = x1 then
          some (x4, σ)
        else
          f_X9_matchAt_b48 (f_X9_matchAt_b16 n) x0 x1 (x3 + (1 : Int32)) x4 σ
      else
        f_X9_matchAt_b48 (f_X9_matchAt_b16 n) x0 x1 x3 x4 σ
def f_X9_matchAt (x0 : Nat) (x1 : Int32) (σ : hb_M) : Option (Int32 × hb_M) :=
  (hb_on σ x0 9 (f_X9_laysMatches x0 σ)).bind fun r1 =>
  if 0 ≤ r1.1 then
    f_X9_matchAt_b16 hb_FU x0 x1 (0 : Int32) (0 : Int32) r1.2
  else
    some (r1.1, r1.2)
