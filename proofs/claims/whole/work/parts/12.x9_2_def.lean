def f_X9_collects_b211 (k99 : Nat → Int32 → Int32 → hb_M → Option (Int32 × hb_M)) (x0 : Nat) (x3 : Int32) (x4 : Int32) (σ : hb_M) : Option (Int32 × hb_M) :=
  k99 x0 x3 (x4 + (1 : Int32)) σ
def f_X9_collects_b209 (k99 : Nat → Int32 → Int32 → hb_M → Option (Int32 × hb_M)) (x0 : Nat) (x3 : Int32) (x4 : Int32) (s0 : Nat) (s1 : Int32) (s2 : Int32) (s3 : Int32) (σ : hb_M) : Option (Int32 × hb_M) :=
  (hb_iast σ s0 s1 (s2 + s3)).bind fun r1 =>
  f_X9_collects_b211 k99 x0 x3 x4 r1
def f_X9_collects_b174 (k99 : Nat → Int32 → Int32 → hb_M → Option (Int32 × hb_M)) (x0 : Nat) (x3 : Int32) (x4 : Int32) (σ : hb_M) : Option (Int32 × hb_M) :=
  (hb_getR σ x0 9 0).bind fun r1 =>
  (f_X9_at x4 σ).bind fun r2 =>
  (hb_iald r2.2 r1 (r2.1 + (3 : Int32))).bind fun r3 =>
  (hb_getR r2.2 x0 9 0).bind fun r4 =>
  (f_X9_at x4 r2.2).bind fun r5 =>
  (hb_iald r5.2 r4 (r5.1 + (3 : Int32))).bind fun r6 =>
  if (99 : Int32) ≤ r6 then
    f_X9_collects_b209 k99 x0 x3 x4 r1 (r2.1 + (3 : Int32)) r3 (0 : Int32) r5.2
  else
    f_X9_collects_b209 k99 x0 x3 x4 r1 (r2.1 + (3 : Int32)) r3 (1 : Int32) r5.2
def f_X9_collects_b99 : Nat → Nat → Int32 → Int32 → hb_M → Option (Int32 × hb_M)
  | 0, _, _, _, _ => none
  | n + 1, x0, x3, x4, σ =>
    if (40 : Int32) ≤ x4 then
      some (x3, σ)
    else
      (hb_on σ x0 9 (f_X9_isObject x0 x4 σ)).bind fun r2 =>
      if r2.1 = 0 then
        f_X9_collects_b211 (f_X9_collects_b99 n) x0 x3 x4 r2.2
      else
        (hb_getR r2.2 x0 9 0).bind fun r4 =>
        (f_X9_at x4 r2.2).bind fun r5 =>
        (hb_iald r5.2 r4 (r5.1 + (5 : Int32))).bind fun r6 =>
        (hb_getR r5.2 x0 9 0).bind fun r7 =>
        (f_X9_at x4 r5.2).bind fun r8 =>
        (hb_iald r8.2 r7 (r8.1 + (1 : Int32))).bind fun r9 =>
        if r9 = (11 : Int32) then
          if r6 = (-1 : Int32) then
            f_X9_collects_b174 (f_X9_collects_b99 n) x0 x3 x4 r8.2
          else
            (hb_on r8.2 x0 9 (f_X9_isObject x0 r6 r8.2)).bind fun r12 =>
            if r12.1 = 0 then
              (hb_getR r12.2 x0 9 0).bind fun r14 =>
              (f_X9_at x4 r12.2).bind fun r15 =>
              (hb_iast r15.2 r14 (r15.1 + (5 : Int32)) (-1 : Int32)).bind fun r16 =>
              f_X9_collects_b174 (f_X9_collects_b99 n) x0 x3 x4 r16
            else
              f_X9_collects_b174 (f_X9_collects_b99 n) x0 x3 x4 r12.2
        else
          f_X9_collects_b174 (f_X9_collects_b99 n) x0 x3 x4 r8.2
def f_X9_collects_b90 (k59 : Nat → Int64 → Int32 → Int32 → hb_M → Option (Int32 × hb_M)) (x0 : Nat) (x1 : Int64) (x3 : Int32) (x4 : Int32) (σ : hb_M) : Option (Int32 × hb_M) :=
  k59 x0 x1 x3 (x4 + (1 : Int32)) σ
def f_X9_collects_b59 : Nat → Nat → Int64 → Int32 → Int32 → hb_M → Option (Int32 × hb_M)
  | 0, _, _, _, _, _ => none
  | n + 1, x0, x1, x3, x4, σ =>
    if (40 : Int32) ≤ x4 then
      f_X9_collects_b99 hb_FU x0 x3 (0 : Int32) σ
    else
      if (lg_cmp ((x1 >>> (x4.toInt64 &&& 63)) &&& (1 : Int64)) (0 : Int64)) = 0 then
        (hb_getR σ x0 9 0).bind fun r3 =>
        (f_X9_at x4 σ).bind fun r4 =>
        (hb_iast r4.2 r3 (r4.1 + (0 : Int32)) (0 : Int32)).bind fun r5 =>
        f_X9_collects_b90 (f_X9_collects_b59 n) x0 x1 x3 x4 r5
      else
        f_X9_collects_b90 (f_X9_collects_b59 n) x0 x1 x3 x4 σ
def f_X9_collects_b50 (k14 : Nat → Int64 → Int32 → Int32 → hb_M → Option (Int32 × hb_M)) (x0 : Nat) (x1 : Int64) (x3 : Int32) (x4 : Int32) (σ : hb_M) : Option (Int32 × hb_M) :=
  k14 x0 x1 x3 (x4 + (1 : Int32)) σ
def f_X9_collects_b14 : Nat → Nat → Int64 → Int32 → Int32 → hb_M → Option (Int32 × hb_M)
  | 0, _, _, _, _, _ => none
  | n + 1, x0, x1, x3, x4, σ =>
    if (40 : Int32) ≤ x4 then
      f_X9_collects_b59 hb_FU x0 x1 x3 (0 : Int32) σ
    else
      (hb_on σ x0 9 (f_X9_isObject x0 x4 σ)).bind fun r2 =>
      if r2.1 = 0 then
        f_X9_collects_b50 (f_X9_collects_b14 n) x0 x1 x3 x4 r2.2
      else
        if (lg_cmp ((x1 >>> (x4.toInt64 &&& 63)) &&& (1 : Int64)) (0 : Int64)) = 0 then
          (hb_on r2.2 x0 9 (f_X9_sizeOf x0 x4 r2.2)).bind fun r5 =>
          f_X9_collects_b50 (f_X9_collects_b14 n) x0 x1 (x3 + r5.1) x4 r5.2
        else
          f_X9_collects_b50 (f_X9_collects_b14 n) x0 x1 x3 x4 r2.2
def f_X9_collects (x0 : Nat) (σ : hb_M) : Option (Int32 × hb_M) :=
  (hb_on σ x0 9 (f_X9_reached x0 (0 : Int64) (-1 : Int32) (-1 : Int32) (-1 : Int32) σ)).bind fun r1 =>
  f_X9_collects_b14 hb_FU x0 r1.1 (0 : Int32) (0 : Int32) r1.2
def f_X9_collect (x0 : Nat) (σ : hb_M) : Option (Int32 × hb_M) :=
  (hb_putI σ x0 9 4 (0 : Int32)).bind fun r1 =>
  (hb_on r1 x0 9 (f_X9_saves x0 r1)).bind fun r2 =>
  (hb_on r2 x0 9 (f_X9_collects x0 r2)).bind fun r3 =>
  some (r3.1, r3.2)
def f_X9_objects (x0 : Nat) (σ : hb_M) : Option (Int32 × hb_M) :=
  (hb_putI σ x0 9 4 (0 : Int32)).bind fun r1 =>
  (hb_on r1 x0 9 (f_X9_many x0 r1)).bind fun r2 =>
  some (r2.1, r2.2)
def f_X9_exists (x0 : Nat) (x1 : Int32) (σ : hb_M) : Option (Int32 × hb_M) :=
  (hb_putI σ x0 9 4 (0 : Int32)).bind fun r1 =>
  (hb_on r1 x0 9 (f_X9_isObject x0 x1 r1)).bind fun r2 =>
  hb_zr r2.1 r2.2
def f_X9_referencesFrom_b58 (k4 : Nat → Int32 → Int32 → Int32 → hb_M → Option (Int32 × hb_M)) (x0 : Nat) (x1 : Int32) (x3 : Int32) (s0 : Int32) (s1 : Int32) (σ : hb_M) : Option (Int32 × hb_M) :=
  k4 x0 x1 (s0 + s1) (x3 + (1 : Int32)) σ
def f_X9_referencesFrom_b4 : Nat → Nat → Int32 → Int32 → Int32 → hb_M → Option (Int32 × hb_M)
  | 0, _, _, _, _, _ => none
  | n + 1, x0, x1, x2, x3, σ =>
    (hb_getR σ x0 9 0).bind fun r1 =>
    (f_X9_at x1 σ).bind fun r2 =>
    (hb_iald r2.2 r1 (r2.1 + (2 : Int32))).bind fun r3 =>
    if r3 ≤ x3 then
      some (x2, r2.2)
    else
      (hb_getR r2.2 x0 9 0).bind fun r5 =>
      (f_X9_at x1 r2.2).bind fun r6 =>
      (hb_iald r6.2 r5 (r6.1 + (1 : Int32))).bind fun r7 =>
      if r7 = (11 : Int32) then
        some (x2, r6.2)
      else
        (hb_getR r6.2 x0 9 0).bind fun r9 =>
        (f_X9_at x1 r6.2).bind fun r10 =>
        (hb_iald r10.2 r9 ((r10.1 + (5 : Int32)) + x3)).bind fun r11 =>
        if r11 = (-1 : Int32) then
          f_X9_referencesFrom_b58 (f_X9_referencesFrom_b4 n) x0 x1 x3 x2 (0 : Int32) r10.2
        else
          f_X9_referencesFrom_b58 (f_X9_referencesFrom_b4 n) x0 x1 x3 x2 (1 : Int32) r10.2
def f_X9_referencesFrom (x0 : Nat) (x1 : Int32) (σ : hb_M) : Option (Int32 × hb_M) :=
  f_X9_referencesFrom_b4 hb_FU x0 x1 (0 : Int32) (0 : Int32) σ
def f_X9_referencesTo_b85 (k4 : Nat → Int32 → Int32 → Int32 → hb_M → Option (Int32 × hb_M)) (x0 : Nat) (x1 : Int32) (x2 : Int32) (x3 : Int32) (σ : hb_M) : Option (Int32 × hb_M) :=
  k4 x0 x1 x2 (x3 + (1 : Int32)) σ
def f_X9_referencesTo_b77 (k4 : Nat → Int32 → Int32 → Int32 → hb_M → Option (Int32 × hb_M)) (k37 : Nat → Int32 → Int32 → Int32 → Int32 → hb_M → Option (Int32 × hb_M)) (x0 : Nat) (x1 : Int32) (x3 : Int32) (x4 : Int32) (s0 : Int32) (s1 : Int32) (σ : hb_M) : Option (Int32 × hb_M) :=
  k37 x0 x1 (s0 + s1) x3 (x4 + (1 : Int32)) σ
def f_X9_referencesTo_b37 (k4 : Nat → Int32 → Int32 → Int32 → hb_M → Option (Int32 × hb_M)) : Nat → Nat → Int32 → Int32 → Int32 → Int32 → hb_M → Option (Int32 × hb_M)
  | 0, _, _, _, _, _, _ => none
  | n + 1, x0, x1, x2, x3, x4, σ =>
    (hb_getR σ x0 9 0).bind fun r1 =>
    (f_X9_at x3 σ).bind fun r2 =>
    (hb_iald r2.2 r1 (r2.1 + (2 : Int32))).bind fun r3 =>
    if r3 ≤ x4 then
      f_X9_referencesTo_b85 k4 x0 x1 x2 x3 r2.2
    else
      (hb_getR r2.2 x0 9 0).bind fun r5 =>
      (f_X9_at x3 r2.2).bind fun r6 =>
      (hb_iald r6.2 r5 ((r6.1 + (5 : Int32)) + x4)).bind fun r7 =>
      if r7 = x1 then
        f_X9_referencesTo_b77 k4 (f_X9_referencesTo_b37 k4 n) x0 x1 x3 x4 x2 (1 : Int32) r6.2
      else
        f_X9_referencesTo_b77 k4 (f_X9_referencesTo_b37 k4 n) x0 x1 x3 x4 x2 (0 : Int32) r6.2
def f_X9_referencesTo_b4 : Nat → Nat → Int32 → Int32 → Int32 → hb_M → Option (Int32 × hb_M)
  | 0, _, _, _, _, _ => none
  | n + 1, x0, x1, x2, x3, σ =>
    if (40 : Int32) ≤ x3 then
      some (x2, σ)
    else
      (hb_on σ x0 9 (f_X9_isObject x0 x3 σ)).bind fun r2 =>
      if r2.1 = 0 then
        f_X9_referencesTo_b85 (f_X9_referencesTo_b4 n) x0 x1 x2 x3 r2.2
      else
        (hb_getR r2.2 x0 9 0).bind fun r4 =>
        (f_X9_at x3 r2.2).bind fun r5 =>
        (hb_iald r5.2 r4 (r5.1 + (1 : Int32))).bind fun r6 =>
        if r6 = (11 : Int32) then
          f_X9_referencesTo_b85 (f_X9_referencesTo_b4 n) x0 x1 x2 x3 r5.2
        else
          f_X9_referencesTo_b37 (f_X9_referencesTo_b4 n) hb_FU x0 x1 x2 x3 (0 : Int32) r5.2
def f_X9_referencesTo (x0 : Nat) (x1 : Int32) (σ : hb_M) : Option (Int32 × hb_M) :=
  f_X9_referencesTo_b4 hb_FU x0 x1 (0 : Int32) (0 : Int32) σ
def f_X9_objectBy (x0 : Nat) (x1 : Int32) (x2 : Int32) (σ : hb_M) : Option (Int32 × hb_M) :=
  if x2 = (0 : Int32) then
    (hb_getR σ x0 9 0).bind fun r2 =>
    (f_X9_at x1 σ).bind fun r3 =>
    (hb_iald r3.2 r2 (r3.1 + (1 : Int32))).bind fun r4 =>
    some (r4, r3.2)
  else if x2 = (1 : Int32) then
    (hb_getR σ x0 9 0).bind fun r6 =>
    (f_X9_at x1 σ).bind fun r7 =>
    (hb_iald r7.2 r6 (r7.1 + (0 : Int32))).bind fun r8 =>
    some (r8, r7.2)
  else if x2 = (2 : Int32) then
    (hb_on σ x0 9 (f_X9_sizeOf x0 x1 σ)).bind fun r10 =>
    some (r10.1, r10.2)
  else if x2 = (3 : Int32) then
    (hb_getR σ x0 9 0).bind fun r12 =>
    (f_X9_at x1 σ).bind fun r13 =>
    (hb_iald r13.2 r12 (r13.1 + (3 : Int32))).bind fun r14 =>
    some (r14, r13.2)
  else if x2 = (4 : Int32) then
    (hb_getR σ x0 9 0).bind fun r16 =>
    (f_X9_at x1 σ).bind fun r17 =>
    (hb_iald r17.2 r16 (r17.1 + (2 : Int32))).bind fun r18 =>
    some (r18, r17.2)
  else if x2 = (5 : Int32) then
    (hb_getR σ x0 9 0).bind fun r20 =>
    (f_X9_at x1 σ).bind fun r21 =>
    (hb_iald r21.2 r20 (r21.1 + (4 : Int32))).bind fun r22 =>
    some (r22, r21.2)
  else if x2 = (6 : Int32) then
    (hb_on σ x0 9 (f_X9_referencesFrom x0 x1 σ)).bind fun r24 =>
    some (r24.1, r24.2)
  else 
    (hb_on σ x0 9 (f_X9_referencesTo x0 x1 σ)).bind fun r25 =>
    some (r25.1, r25.2)
def f_X9_objectInfo_b28 (x0 : Nat) (x1 : Int32) (x2 : Int32) (s0 : Nat) (s1 : Int32) (σ : hb_M) : Option (Int32 × hb_M) :=
  (hb_on σ s0 9 (f_X9_refused s0 s1 σ)).bind fun r1 =>
  if r1.1 = 0 then
    (hb_on r1.2 x0 9 (f_X9_objectBy x0 x1 x2 r1.2)).bind fun r3 =>
    some (r3.1, r3.2)
  else
    some ((0 : Int32), r1.2)
def f_X9_objectInfo (x0 : Nat) (x1 : Int32) (x2 : Int32) (σ : hb_M) : Option (Int32 × hb_M) :=
  (hb_on σ x0 9 (f_X9_isObject x0 x1 σ)).bind fun r1 =>
  if r1.1 = 0 then
    f_X9_objectInfo_b28 x0 x1 x2 x0 (1 : Int32) r1.2
  else
    (f_X9_within x2 (0 : Int32) (7 : Int32) r1.2).bind fun r3 =>
    if r3.1 = 0 then
      f_X9_objectInfo_b28 x0 x1 x2 x0 (2 : Int32) r3.2
    else
      f_X9_objectInfo_b28 x0 x1 x2 x0 (0 : Int32) r3.2
def f_X9_draw (x0 : Nat) (x1 : Int32) (σ : hb_M) : Option (Int32 × hb_M) :=
  (hb_getL σ x0 9 10).bind fun r1 =>
  (hb_putL σ x0 9 10 (((r1 * (1103515245 : Int64)) + (12345 : Int64)) - ((r1 * (1103515245 : Int64)) + (12345 : Int64)) / (2147483648 : Int64) * (2147483648 : Int64))).bind fun r2 =>
  (hb_getL r2 x0 9 10).bind fun r3 =>
  if x1.toInt64 = 0 then none else
  some ((((r3 / (65536 : Int64)) - (r3 / (65536 : Int64)) / x1.toInt64 * x1.toInt64).toInt32), r2)
def f_X9_lowest_b30 (k4 : Nat → Int32 → Int32 → hb_M → Option (Int32 × hb_M)) (x0 : Nat) (x2 : Int32) (s0 : Int32) (s1 : Int32) (σ : hb_M) : Option (Int32 × hb_M) :=
  k4 x0 (x2 + (1 : Int32)) (s0 - s1) σ
def f_X9_lowest_b16 (k4 : Nat → Int32 → Int32 → hb_M → Option (Int32 × hb_M)) (x0 : Nat) (x2 : Int32) (x3 : Int32) (σ : hb_M) : Option (Int32 × hb_M) :=
  (hb_on σ x0 9 (f_X9_isObject x0 x2 σ)).bind fun r1 =>
  if r1.1 = 0 then
    f_X9_lowest_b30 k4 x0 x2 x3 (0 : Int32) r1.2
  else
    f_X9_lowest_b30 k4 x0 x2 x3 (1 : Int32) r1.2
def f_X9_lowest_b4 : Nat → Nat → Int32 → Int32 → hb_M → Option (Int32 × hb_M)
  | 0, _, _, _, _ => none
  | n + 1, x0, x2, x3, σ =>
    (hb_on σ x0 9 (f_X9_isObject x0 x2 σ)).bind fun r1 =>
    if r1.1 = 0 then
      f_X9_lowest_b16 (f_X9_lowest_b4 n) x0 x2 x3 r1.2
    else
      if x3 ≤ 0 then
        some (x2, r1.2)
      else
        f_X9_lowest_b16 (f_X9_lowest_b4 n) x0 x2 x3 r1.2
def f_X9_lowest (x0 : Nat) (x1 : Int32) (σ : hb_M) : Option (Int32 × hb_M) :=
  f_X9_lowest_b4 hb_FU x0 (0 : Int32) x1 σ
def f_X9_populate_b226 (k55 : Nat → Int32 → Int32 → hb_M → Option (Int32 × hb_M)) (x0 : Nat) (x2 : Int32) (x3 : Int32) (σ : hb_M) : Option (Int32 × hb_M) :=
  k55 x0 x2 (x3 + (1 : Int32)) σ
def f_X9_populate_b190 (k55 : Nat → Int32 → Int32 → hb_M → Option (Int32 × hb_M)) (k138 : Nat → Int32 → Int32 → Int32 → Int32 → hb_M → Option (Int32 × hb_M)) (x0 : Nat) (x2 : Int32) (x3 : Int32) (x5 : Int32) (x6 : Int32) (σ : hb_M) : Option (Int32 × hb_M) :=
  k138 x0 x2 x3 x5 (x6 + (1 : Int32)) σ
def f_X9_populate_b138 (k55 : Nat → Int32 → Int32 → hb_M → Option (Int32 × hb_M)) : Nat → Nat → Int32 → Int32 → Int32 → Int32 → hb_M → Option (Int32 × hb_M)
  | 0, _, _, _, _, _, _ => none
  | n + 1, x0, x2, x3, x5, x6, σ =>
    (hb_getR σ x0 9 0).bind fun r1 =>
    (f_X9_at x5 σ).bind fun r2 =>
    (hb_iald r2.2 r1 (r2.1 + (2 : Int32))).bind fun r3 =>
    if r3 ≤ x6 then
      (hb_on r2.2 x0 9 (f_X9_draw x0 (5 : Int32) r2.2)).bind fun r5 =>
      if r5.1 = 0 then
        (hb_getR r5.2 x0 9 0).bind fun r7 =>
        (f_X9_at x5 r5.2).bind fun r8 =>
        (hb_iald r8.2 r7 (r8.1 + (4 : Int32))).bind fun r9 =>
        (hb_on r8.2 x0 9 (f_X9_draw x0 (3 : Int32) r8.2)).bind fun r10 =>
        (hb_iast r10.2 r7 (r8.1 + (4 : Int32)) (r9 ||| ((1 : Int32) <<< (r10.1 &&& 31)))).bind fun r11 =>
        f_X9_populate_b226 k55 x0 x2 x3 r11
      else
        f_X9_populate_b226 k55 x0 x2 x3 r5.2
    else
      (hb_on r2.2 x0 9 (f_X9_draw x0 (3 : Int32) r2.2)).bind fun r12 =>
      if r12.1 = 0 then
        f_X9_populate_b190 k55 (f_X9_populate_b138 k55 n) x0 x2 x3 x5 x6 r12.2
      else
        (hb_getR r12.2 x0 9 0).bind fun r14 =>
        (f_X9_at x5 r12.2).bind fun r15 =>
        (hb_on r15.2 x0 9 (f_X9_many x0 r15.2)).bind fun r16 =>
        (hb_on r16.2 x0 9 (f_X9_draw x0 r16.1 r16.2)).bind fun r17 =>
        (hb_on r17.2 x0 9 (f_X9_lowest x0 r17.1 r17.2)).bind fun r18 =>
        (hb_iast r18.2 r14 ((r15.1 + (5 : Int32)) + x6) r18.1).bind fun r19 =>
        f_X9_populate_b190 k55 (f_X9_populate_b138 k55 n) x0 x2 x3 x5 x6 r19
def f_X9_populate_b135 (k55 : Nat → Int32 → Int32 → hb_M → Option (Int32 × hb_M)) (x0 : Nat) (x2 : Int32) (x3 : Int32) (x5 : Int32) (σ : hb_M) : Option (Int32 × hb_M) :=
  f_X9_populate_b138 k55 hb_FU x0 x2 x3 x5 (0 : Int32) σ
def f_X9_populate_b133 (k55 : Nat → Int32 → Int32 → hb_M → Option (Int32 × hb_M)) (x0 : Nat) (x2 : Int32) (x3 : Int32) (s0 : Int32) (σ : hb_M) : Option (Int32 × hb_M) :=
  f_X9_populate_b135 k55 x0 x2 x3 s0 σ
def f_X9_populate_b55 : Nat → Nat → Int32 → Int32 → hb_M → Option (Int32 × hb_M)
  | 0, _, _, _, _ => none
  | n + 1, x0, x2, x3, σ =>
    if x2 ≤ x3 then
      (hb_on σ x0 9 (f_X9_many x0 σ)).bind fun r2 =>
      some (r2.1, r2.2)
    else
      (hb_on σ x0 9 (f_X9_draw x0 (4 : Int32) σ)).bind fun r3 =>
      if (2 : Int32) ≤ r3.1 then
        if r3.1 = (2 : Int32) then
          (hb_on r3.2 x0 9 (f_X9_draw x0 (9 : Int32) r3.2)).bind fun r7 =>
          (hb_on r7.2 x0 9 (f_X9_creates x0 (10 : Int32) r7.1 r7.2)).bind fun r8 =>
          f_X9_populate_b133 (f_X9_populate_b55 n) x0 x2 x3 r8.1 r8.2
        else
          (hb_on r3.2 x0 9 (f_X9_creates x0 (11 : Int32) (1 : Int32) r3.2)).bind fun r6 =>
          f_X9_populate_b133 (f_X9_populate_b55 n) x0 x2 x3 r6.1 r6.2
      else
        (hb_getR r3.2 x0 9 0).bind fun r9 =>
        (hb_iald r3.2 r9 (0 : Int32)).bind fun r10 =>
        (hb_on r3.2 x0 9 (f_X9_draw x0 r10 r3.2)).bind fun r11 =>
        (hb_on r11.2 x0 9 (f_X9_fieldsOf x0 r11.1 r11.2)).bind fun r12 =>
        (hb_on r12.2 x0 9 (f_X9_creates x0 r11.1 r12.1 r12.2)).bind fun r13 =>
        f_X9_populate_b135 (f_X9_populate_b55 n) x0 x2 x3 r13.1 r13.2
def f_X9_populate_b35 (x0 : Nat) (x1 : Int32) (x2 : Int32) (s0 : Nat) (s1 : Int32) (σ : hb_M) : Option (Int32 × hb_M) :=
  (hb_on σ s0 9 (f_X9_refused s0 s1 σ)).bind fun r1 =>
  if r1.1 = 0 then
    (hb_on r1.2 x0 9 (f_X9_saves x0 r1.2)).bind fun r3 =>
    (hb_putL r3 x0 9 10 x1.toInt64).bind fun r4 =>
    f_X9_populate_b55 hb_FU x0 x2 (0 : Int32) r4
  else
    some ((0 : Int32), r1.2)
def f_X9_populate_b15 (x0 : Nat) (x1 : Int32) (x2 : Int32) (s0 : Nat) (σ : hb_M) : Option (Int32 × hb_M) :=
  f_X9_populate_b35 x0 x1 x2 s0 (1 : Int32) σ
def f_X9_populate (x0 : Nat) (x1 : Int32) (x2 : Int32) (σ : hb_M) : Option (Int32 × hb_M) :=
  if x1 < 0 then
    f_X9_populate_b15 x0 x1 x2 x0 σ
  else
    (f_X9_within x2 (1 : Int32) (40 : Int32) σ).bind fun r2 =>
    if r2.1 = 0 then
      f_X9_populate_b15 x0 x1 x2 x0 r2.2
    else
      (hb_on r2.2 x0 9 (f_X9_many x0 r2.2)).bind fun r4 =>
      if (r4.1 + x2) ≤ (40 : Int32) then
        f_X9_populate_b35 x0 x1 x2 x0 (0 : Int32) r4.2
      else
        f_X9_populate_b35 x0 x1 x2 x0 (2 : Int32) r4.2
def f_X9_laysRetained_b61 (k14 : Nat → Int32 → hb_M → Option hb_M) (x0 : Nat) (x1 : Int32) (s0 : Nat) (s1 : Int32) (s2 : Int64) (σ : hb_M) : Option hb_M :=
  (hb_last σ s0 s1 s2).bind fun r1 =>
  k14 x0 (x1 + (1 : Int32)) r1
def f_X9_laysRetained_b14 : Nat → Nat → Int32 → hb_M → Option hb_M
  | 0, _, _, _ => none
  | n + 1, x0, x1, σ =>
    if (40 : Int32) ≤ x1 then
      some σ
    else
      (hb_getR σ x0 9 12).bind fun r2 =>
      (hb_getL σ x0 9 11).bind fun r3 =>
      if (lg_cmp ((r3 >>> (x1.toInt64 &&& 63)) &&& (1 : Int64)) (1 : Int64)) = 0 then
        (hb_getL σ x0 9 11).bind fun r5 =>
        (hb_on σ x0 9 (f_X9_reached x0 ((1 : Int64) <<< (x1.toInt64 &&& 63)) (-1 : Int32) (-1 : Int32) (-1 : Int32) σ)).bind fun r6 =>
        f_X9_laysRetained_b61 (f_X9_laysRetained_b14 n) x0 x1 r2 x1 (r5 &&& (r6.1 ^^^ (-1 : Int64))) r6.2
      else
        f_X9_laysRetained_b61 (f_X9_laysRetained_b14 n) x0 x1 r2 x1 (0 : Int64) σ
def f_X9_laysRetained (x0 : Nat) (σ : hb_M) : Option hb_M :=
  (hb_on σ x0 9 (f_X9_reached x0 (0 : Int64) (-1 : Int32) (-1 : Int32) (-1 : Int32) σ)).bind fun r1 =>
  (hb_putL r1.2 x0 9 11 r1.1).bind fun r2 =>
  f_X9_laysRetained_b14 hb_FU x0 (0 : Int32) r2
def f_X9_isReached (x0 : Nat) (x1 : Int32) (σ : hb_M) : Option (Int32 × hb_M) :=
  (hb_getL σ x0 9 11).bind fun r1 =>
  if (lg_cmp ((r1 >>> (x1.toInt64 &&& 63)) &&& (1 : Int64)) (1 : Int64)) = 0 then
    some ((1 : Int32), σ)
  else
    some ((0 : Int32), σ)
def f_X9_depthOf_b31 (k4 : Nat → Int32 → Int32 → Int32 → hb_M → Option (Int32 × hb_M)) (x0 : Nat) (x1 : Int32) (x3 : Int32) (s0 : Int32) (s1 : Int32) (σ : hb_M) : Option (Int32 × hb_M) :=
  k4 x0 x1 (s0 + s1) (x3 + (1 : Int32)) σ
def f_X9_depthOf_b4 : Nat → Nat → Int32 → Int32 → Int32 → hb_M → Option (Int32 × hb_M)
  | 0, _, _, _, _, _ => none
  | n + 1, x0, x1, x2, x3, σ =>
    if (40 : Int32) ≤ x3 then
      some (x2, σ)
    else
      (hb_getR σ x0 9 12).bind fun r2 =>
      (hb_lald σ r2 x3).bind fun r3 =>
      if (lg_cmp ((r3 >>> (x1.toInt64 &&& 63)) &&& (1 : Int64)) (1 : Int64)) = 0 then
        f_X9_depthOf_b31 (f_X9_depthOf_b4 n) x0 x1 x3 x2 (1 : Int32) σ
      else
        f_X9_depthOf_b31 (f_X9_depthOf_b4 n) x0 x1 x3 x2 (0 : Int32) σ
def f_X9_depthOf (x0 : Nat) (x1 : Int32) (σ : hb_M) : Option (Int32 × hb_M) :=
  f_X9_depthOf_b4 hb_FU x0 x1 (-1 : Int32) (0 : Int32) σ
def f_X9_immediate_b55 (k4 : Nat → Int32 → Int32 → Int32 → hb_M → Option (Int32 × hb_M)) (x0 : Nat) (x1 : Int32) (x2 : Int32) (x3 : Int32) (σ : hb_M) : Option (Int32 × hb_M) :=
  k4 x0 x1 x2 (x3 + (1 : Int32)) σ
def f_X9_immediate_b4 : Nat → Nat → Int32 → Int32 → Int32 → hb_M → Option (Int32 × hb_M)
  | 0, _, _, _, _, _ => none
  | n + 1, x0, x1, x2, x3, σ =>
    if (40 : Int32) ≤ x3 then
      some (x2, σ)
    else
      (hb_on σ x0 9 (f_X9_isReached x0 x1 σ)).bind fun r2 =>
      if r2.1 = 0 then
        some (x2, r2.2)
      else
        if x3 = x1 then
          f_X9_immediate_b55 (f_X9_immediate_b4 n) x0 x1 x2 x3 r2.2
        else
          (hb_getR r2.2 x0 9 12).bind fun r5 =>
          (hb_lald r2.2 r5 x3).bind fun r6 =>
          if (lg_cmp ((r6 >>> (x1.toInt64 &&& 63)) &&& (1 : Int64)) (1 : Int64)) = 0 then
            (hb_on r2.2 x0 9 (f_X9_depthOf x0 x3 r2.2)).bind fun r8 =>
            (hb_on r8.2 x0 9 (f_X9_depthOf x0 x1 r8.2)).bind fun r9 =>
            if r8.1 = (r9.1 - (1 : Int32)) then
              f_X9_immediate_b55 (f_X9_immediate_b4 n) x0 x1 x3 x3 r9.2
            else
              f_X9_immediate_b55 (f_X9_immediate_b4 n) x0 x1 x2 x3 r9.2
          else
            f_X9_immediate_b55 (f_X9_immediate_b4 n) x0 x1 x2 x3 r2.2
def f_X9_immediate (x0 : Nat) (x1 : Int32) (σ : hb_M) : Option (Int32 × hb_M) :=
  f_X9_immediate_b4 hb_FU x0 x1 (-1 : Int32) (0 : Int32) σ
def f_X9_laysFar_b122 (k66 : Nat → Int64 → Int64 → Int32 → hb_M → Option hb_M) (k82 : Nat → Int64 → Int64 → Int32 → Int64 → Int32 → hb_M → Option hb_M) (x0 : Nat) (x1 : Int64) (x3 : Int64) (x5 : Int32) (x6 : Int64) (x8 : Int32) (σ : hb_M) : Option hb_M :=
  k82 x0 x1 x3 x5 x6 (x8 + (1 : Int32)) σ
def f_X9_laysFar_b82 (k66 : Nat → Int64 → Int64 → Int32 → hb_M → Option hb_M) : Nat → Nat → Int64 → Int64 → Int32 → Int64 → Int32 → hb_M → Option hb_M
  | 0, _, _, _, _, _, _, _ => none
  | n + 1, x0, x1, x3, x5, x6, x8, σ =>
    if (40 : Int32) ≤ x8 then
      k66 x0 x1 (x6 &&& (x1 ^^^ (-1 : Int64))) (x5 + (1 : Int32)) σ
    else
      if (lg_cmp ((x3 >>> (x8.toInt64 &&& 63)) &&& (1 : Int64)) (1 : Int64)) = 0 then
        (hb_getR σ x0 9 13).bind fun r3 =>
        (hb_iast σ r3 x8 x5).bind fun r4 =>
        (hb_on r4 x0 9 (f_X9_refersTo x0 x8 (-1 : Int32) (-1 : Int32) r4)).bind fun r5 =>
        f_X9_laysFar_b122 k66 (f_X9_laysFar_b82 k66 n) x0 x1 x3 x5 (x6 ||| r5.1) x8 r5.2
      else
        f_X9_laysFar_b122 k66 (f_X9_laysFar_b82 k66 n) x0 x1 x3 x5 x6 x8 σ
def f_X9_laysFar_b66 : Nat → Nat → Int64 → Int64 → Int32 → hb_M → Option hb_M
  | 0, _, _, _, _, _ => none
  | n + 1, x0, x1, x3, x5, σ =>
    if (lg_cmp x3 (0 : Int64)) = 0 then
      some σ
    else
      f_X9_laysFar_b82 (f_X9_laysFar_b66 n) hb_FU x0 (x1 ||| x3) x3 x5 (0 : Int64) (0 : Int32) σ
def f_X9_laysFar_b55 (k7 : Nat → Int64 → Int64 → Int32 → hb_M → Option hb_M) (x0 : Nat) (x1 : Int64) (x5 : Int32) (s0 : Int64) (s1 : Int64) (σ : hb_M) : Option hb_M :=
  k7 x0 x1 (s0 ||| s1) (x5 + (1 : Int32)) σ
def f_X9_laysFar_b54 (k7 : Nat → Int64 → Int64 → Int32 → hb_M → Option hb_M) (x0 : Nat) (x1 : Int64) (x5 : Int32) (s0 : Int64) (σ : hb_M) : Option hb_M :=
  f_X9_laysFar_b55 k7 x0 x1 x5 s0 (0 : Int64) σ
def f_X9_laysFar_b7 : Nat → Nat → Int64 → Int64 → Int32 → hb_M → Option hb_M
  | 0, _, _, _, _, _ => none
  | n + 1, x0, x1, x3, x5, σ =>
    if (40 : Int32) ≤ x5 then
      f_X9_laysFar_b66 hb_FU x0 x1 x3 (0 : Int32) σ
    else
      (hb_getR σ x0 9 13).bind fun r2 =>
      (hb_iast σ r2 x5 (-1 : Int32)).bind fun r3 =>
      (hb_on r3 x0 9 (f_X9_isObject x0 x5 r3)).bind fun r4 =>
      if r4.1 = 0 then
        f_X9_laysFar_b54 (f_X9_laysFar_b7 n) x0 x1 x5 x3 r4.2
      else
        (hb_getR r4.2 x0 9 0).bind fun r6 =>
        (f_X9_at x5 r4.2).bind fun r7 =>
        (hb_iald r7.2 r6 (r7.1 + (4 : Int32))).bind fun r8 =>
        if r8 = 0 then
          f_X9_laysFar_b54 (f_X9_laysFar_b7 n) x0 x1 x5 x3 r7.2
        else
          f_X9_laysFar_b55 (f_X9_laysFar_b7 n) x0 x1 x5 x3 ((1 : Int64) <<< (x5.toInt64 &&& 63)) r7.2
def f_X9_laysFar (x0 : Nat) (σ : hb_M) : Option hb_M :=
  f_X9_laysFar_b7 hb_FU x0 (0 : Int64) (0 : Int64) (0 : Int32) σ
def f_X9_need (x0 : Nat) (x1 : Int32) (σ : hb_M) : Option (Int32 × hb_M) :=
  if x1 = 0 then
    some ((1 : Int32), σ)
  else
    some ((0 : Int32), σ)
def f_X9_distance (x0 : Nat) (x1 : Int32) (σ : hb_M) : Option (Int32 × hb_M) :=
  (hb_on σ x0 9 (f_X9_isObject x0 x1 σ)).bind fun r1 =>
  (hb_on r1.2 x0 9 (f_X9_need x0 r1.1 r1.2)).bind fun r2 =>
  (hb_on r2.2 x0 9 (f_X9_refused x0 r2.1 r2.2)).bind fun r3 =>
  if r3.1 = 0 then
    (hb_on r3.2 x0 9 (f_X9_laysFar x0 r3.2)).bind fun r5 =>
    (hb_getR r5 x0 9 13).bind fun r6 =>
    (hb_iald r5 r6 x1).bind fun r7 =>
    some (r7, r5)
  else
    some ((0 : Int32), r3.2)
def f_X9_first_b2 : Nat → Int64 → Int32 → hb_M → Option (Int32 × hb_M)
  | 0, _, _, _ => none
  | n + 1, x0, x2, σ =>
    if (lg_cmp ((x0 >>> (x2.toInt64 &&& 63)) &&& (1 : Int64)) (0 : Int64)) = 0 then
      f_X9_first_b2 n x0 (x2 + (1 : Int32)) σ
    else
      some (x2, σ)
def f_X9_first (x0 : Int64) (σ : hb_M) : Option (Int32 × hb_M) :=
  f_X9_first_b2 hb_FU x0 (0 : Int32) σ
def f_X9_pathAt_b172 : Nat → Nat → Int32 → Int32 → Int32 → hb_M → Option (Int32 × hb_M)
  | 0, _, _, _, _, _ => none
  | n + 1, x0, x2, x3, x4, σ =>
    if x2 < x4 then
      some (x3, σ)
    else
      (hb_on σ x0 9 (f_X9_refersTo x0 x3 (-1 : Int32) (-1 : Int32) σ)).bind fun r2 =>
      (hb_getR r2.2 x0 9 14).bind fun r3 =>
      (hb_lald r2.2 r3 x4).bind fun r4 =>
      (f_X9_first (r2.1 &&& r4) r2.2).bind fun r5 =>
      f_X9_pathAt_b172 n x0 x2 r5.1 (x4 + (1 : Int32)) r5.2
def f_X9_pathAt_b147 (k71 : Nat → Int32 → Int32 → hb_M → Option (Int32 × hb_M)) (k85 : Nat → Int32 → Int32 → Int32 → hb_M → Option (Int32 × hb_M)) (x0 : Nat) (x2 : Int32) (x3 : Int32) (x4 : Int32) (σ : hb_M) : Option (Int32 × hb_M) :=
  k85 x0 x2 x3 (x4 + (1 : Int32)) σ
def f_X9_pathAt_b85 (k71 : Nat → Int32 → Int32 → hb_M → Option (Int32 × hb_M)) : Nat → Nat → Int32 → Int32 → Int32 → hb_M → Option (Int32 × hb_M)
  | 0, _, _, _, _, _ => none
  | n + 1, x0, x2, x3, x4, σ =>
    if (40 : Int32) ≤ x4 then
      k71 x0 x2 (x3 + (-1 : Int32)) σ
    else
      (hb_on σ x0 9 (f_X9_isObject x0 x4 σ)).bind fun r2 =>
      if r2.1 = 0 then
        f_X9_pathAt_b147 k71 (f_X9_pathAt_b85 k71 n) x0 x2 x3 x4 r2.2
      else
        (hb_getR r2.2 x0 9 13).bind fun r4 =>
        (hb_iald r2.2 r4 x4).bind fun r5 =>
        if r5 = x3 then
          (hb_on r2.2 x0 9 (f_X9_refersTo x0 x4 (-1 : Int32) (-1 : Int32) r2.2)).bind fun r7 =>
          (hb_getR r7.2 x0 9 14).bind fun r8 =>
          (hb_lald r7.2 r8 (x3 + (1 : Int32))).bind fun r9 =>
          if (lg_cmp (r7.1 &&& r9) (0 : Int64)) = 0 then
            f_X9_pathAt_b147 k71 (f_X9_pathAt_b85 k71 n) x0 x2 x3 x4 r7.2
          else
            (hb_getR r7.2 x0 9 14).bind fun r11 =>
            (hb_lald r7.2 r11 x3).bind fun r12 =>
            (hb_last r7.2 r11 x3 (r12 ||| ((1 : Int64) <<< (x4.toInt64 &&& 63)))).bind fun r13 =>
            f_X9_pathAt_b147 k71 (f_X9_pathAt_b85 k71 n) x0 x2 x3 x4 r13
        else
          f_X9_pathAt_b147 k71 (f_X9_pathAt_b85 k71 n) x0 x2 x3 x4 r2.2
def f_X9_pathAt_b71 : Nat → Nat → Int32 → Int32 → hb_M → Option (Int32 × hb_M)
  | 0, _, _, _, _ => none
  | n + 1, x0, x2, x3, σ =>
    if x3 < 0 then
      (hb_getR σ x0 9 14).bind fun r2 =>
      (hb_lald σ r2 (0 : Int32)).bind fun r3 =>
      (f_X9_first r3 σ).bind fun r4 =>
      f_X9_pathAt_b172 hb_FU x0 x2 r4.1 (1 : Int32) r4.2
    else
      (hb_getR σ x0 9 14).bind fun r5 =>
      (hb_last σ r5 x3 (0 : Int64)).bind fun r6 =>
      f_X9_pathAt_b85 (f_X9_pathAt_b71 n) hb_FU x0 x2 x3 (0 : Int32) r6
def f_X9_pathAt (x0 : Nat) (x1 : Int32) (x2 : Int32) (σ : hb_M) : Option (Int32 × hb_M) :=
  (hb_on σ x0 9 (f_X9_isObject x0 x1 σ)).bind fun r1 =>
  (hb_on r1.2 x0 9 (f_X9_need x0 r1.1 r1.2)).bind fun r2 =>
  (hb_on r2.2 x0 9 (f_X9_refused x0 r2.1 r2.2)).bind fun r3 =>
  if r3.1 = 0 then
    (hb_on r3.2 x0 9 (f_X9_laysFar x0 r3.2)).bind fun r5 =>
    (hb_getR r5 x0 9 13).bind fun r6 =>
    (hb_iald r5 r6 x1).bind fun r7 =>
    if r7 = (-1 : Int32) then
      some ((-1 : Int32), r5)
    else
      (hb_getR r5 x0 9 13).bind fun r9 =>
      (hb_iald r5 r9 x1).bind fun r10 =>
      (f_X9_within x2 (0 : Int32) r10 r5).bind fun r11 =>
      if r11.1 = 0 then
        some ((-1 : Int32), r11.2)
      else
        (hb_getR r11.2 x0 9 14).bind fun r13 =>
        (hb_getR r11.2 x0 9 13).bind fun r14 =>
        (hb_iald r11.2 r14 x1).bind fun r15 =>
        (hb_last r11.2 r13 r15 ((1 : Int64) <<< (x1.toInt64 &&& 63))).bind fun r16 =>
        (hb_getR r16 x0 9 13).bind fun r17 =>
        (hb_iald r16 r17 x1).bind fun r18 =>
        f_X9_pathAt_b71 hb_FU x0 x2 (r18 - (1 : Int32)) r16
  else
    some ((0 : Int32), r3.2)
def f_X9_dominates_b23 (x0 : Nat) (x1 : Int32) (x2 : Int32) (s0 : Nat) (s1 : Nat) (s2 : Int32) (σ : hb_M) : Option (Int32 × hb_M) :=
  (hb_on σ s1 9 (f_X9_need s1 s2 σ)).bind fun r1 =>
  (hb_on r1.2 s0 9 (f_X9_refused s0 r1.1 r1.2)).bind fun r2 =>
  if r2.1 = 0 then
    (hb_on r2.2 x0 9 (f_X9_laysRetained x0 r2.2)).bind fun r4 =>
    (hb_getR r4 x0 9 12).bind fun r5 =>
    (hb_lald r4 r5 x1).bind fun r6 =>
    if (lg_cmp ((r6 >>> (x2.toInt64 &&& 63)) &&& (1 : Int64)) (1 : Int64)) = 0 then
      some ((1 : Int32), r4)
    else
      some ((0 : Int32), r4)
  else
    some ((0 : Int32), r2.2)
def f_X9_dominates_b22 (x0 : Nat) (x1 : Int32) (x2 : Int32) (s0 : Nat) (s1 : Nat) (σ : hb_M) : Option (Int32 × hb_M) :=
  f_X9_dominates_b23 x0 x1 x2 s0 s1 (0 : Int32) σ
def f_X9_dominates (x0 : Nat) (x1 : Int32) (x2 : Int32) (σ : hb_M) : Option (Int32 × hb_M) :=
  (hb_on σ x0 9 (f_X9_isObject x0 x1 σ)).bind fun r1 =>
  if r1.1 = 0 then
    f_X9_dominates_b22 x0 x1 x2 x0 x0 r1.2
  else
    (hb_on r1.2 x0 9 (f_X9_isObject x0 x2 r1.2)).bind fun r3 =>
    if r3.1 = 0 then
      f_X9_dominates_b22 x0 x1 x2 x0 x0 r3.2
    else
      f_X9_dominates_b23 x0 x1 x2 x0 x0 (1 : Int32) r3.2
def f_X9_dominator (x0 : Nat) (x1 : Int32) (σ : hb_M) : Option (Int32 × hb_M) :=
  (hb_on σ x0 9 (f_X9_isObject x0 x1 σ)).bind fun r1 =>
  (hb_on r1.2 x0 9 (f_X9_need x0 r1.1 r1.2)).bind fun r2 =>
  (hb_on r2.2 x0 9 (f_X9_refused x0 r2.1 r2.2)).bind fun r3 =>
  if r3.1 = 0 then
    (hb_on r3.2 x0 9 (f_X9_laysRetained x0 r3.2)).bind fun r5 =>
    (hb_on r5 x0 9 (f_X9_immediate x0 x1 r5)).bind fun r6 =>
    some (r6.1, r6.2)
  else
    some ((0 : Int32), r3.2)
def f_X9_depth (x0 : Nat) (x1 : Int32) (σ : hb_M) : Option (Int32 × hb_M) :=
  (hb_on σ x0 9 (f_X9_isObject x0 x1 σ)).bind fun r1 =>
  (hb_on r1.2 x0 9 (f_X9_need x0 r1.1 r1.2)).bind fun r2 =>
  (hb_on r2.2 x0 9 (f_X9_refused x0 r2.1 r2.2)).bind fun r3 =>
  if r3.1 = 0 then
    (hb_on r3.2 x0 9 (f_X9_laysRetained x0 r3.2)).bind fun r5 =>
    (hb_on r5 x0 9 (f_X9_isReached x0 x1 r5)).bind fun r6 =>
    if r6.1 = 0 then
      some ((-1 : Int32), r6.2)
    else
      (hb_on r6.2 x0 9 (f_X9_depthOf x0 x1 r6.2)).bind fun r8 =>
      some (r8.1, r8.2)
  else
    some ((0 : Int32), r3.2)
def f_X9_dominatedAt_b77 (k40 : Nat → Int32 → Int32 → Int32 → Int32 → hb_M → Option (Int32 × hb_M)) (x0 : Nat) (x1 : Int32) (x2 : Int32) (x3 : Int32) (x4 : Int32) (σ : hb_M) : Option (Int32 × hb_M) :=
  k40 x0 x1 x2 x3 (x4 + (1 : Int32)) σ
def f_X9_dominatedAt_b40 : Nat → Nat → Int32 → Int32 → Int32 → Int32 → hb_M → Option (Int32 × hb_M)
  | 0, _, _, _, _, _, _ => none
  | n + 1, x0, x1, x2, x3, x4, σ =>
    if (40 : Int32) ≤ x4 then
      some ((-1 : Int32), σ)
    else
      (hb_on σ x0 9 (f_X9_isReached x0 x4 σ)).bind fun r2 =>
      if r2.1 = 0 then
        f_X9_dominatedAt_b77 (f_X9_dominatedAt_b40 n) x0 x1 x2 x3 x4 r2.2
      else
        (hb_on r2.2 x0 9 (f_X9_immediate x0 x4 r2.2)).bind fun r4 =>
        if r4.1 = x1 then
          if x3 = x2 then
            some (x4, r4.2)
          else
            f_X9_dominatedAt_b77 (f_X9_dominatedAt_b40 n) x0 x1 x2 (x3 + (1 : Int32)) x4 r4.2
        else
          f_X9_dominatedAt_b77 (f_X9_dominatedAt_b40 n) x0 x1 x2 x3 x4 r4.2
def f_X9_dominatedAt_b20 (x0 : Nat) (x1 : Int32) (x2 : Int32) (s0 : Nat) (s1 : Nat) (s2 : Int32) (σ : hb_M) : Option (Int32 × hb_M) :=
  (hb_on σ s1 9 (f_X9_need s1 s2 σ)).bind fun r1 =>
  (hb_on r1.2 s0 9 (f_X9_refused s0 r1.1 r1.2)).bind fun r2 =>
  if r2.1 = 0 then
    (hb_on r2.2 x0 9 (f_X9_laysRetained x0 r2.2)).bind fun r4 =>
    f_X9_dominatedAt_b40 hb_FU x0 x1 x2 (0 : Int32) (0 : Int32) r4
  else
    some ((0 : Int32), r2.2)
def f_X9_dominatedAt_b15 (x0 : Nat) (x1 : Int32) (x2 : Int32) (s0 : Nat) (s1 : Nat) (σ : hb_M) : Option (Int32 × hb_M) :=
  f_X9_dominatedAt_b20 x0 x1 x2 s0 s1 (1 : Int32) σ
def f_X9_dominatedAt (x0 : Nat) (x1 : Int32) (x2 : Int32) (σ : hb_M) : Option (Int32 × hb_M) :=
  if x1 = (-1 : Int32) then
    f_X9_dominatedAt_b15 x0 x1 x2 x0 x0 σ
  else
    (hb_on σ x0 9 (f_X9_isObject x0 x1 σ)).bind fun r2 =>
    if r2.1 = 0 then
      f_X9_dominatedAt_b20 x0 x1 x2 x0 x0 (0 : Int32) r2.2
    else
      f_X9_dominatedAt_b15 x0 x1 x2 x0 x0 r2.2
def f_X9_retainedBy (x0 : Nat) (x1 : Int32) (σ : hb_M) : Option (Int32 × hb_M) :=
  (hb_getR σ x0 9 12).bind fun r1 =>
  (hb_lald σ r1 x1).bind fun r2 =>
  (hb_on σ x0 9 (f_X9_sizes x0 r2 σ)).bind fun r3 =>
  some (r3.1.toInt32, r3.2)
def f_X9_retainedSize (x0 : Nat) (x1 : Int32) (σ : hb_M) : Option (Int32 × hb_M) :=
  (hb_on σ x0 9 (f_X9_isObject x0 x1 σ)).bind fun r1 =>
  (hb_on r1.2 x0 9 (f_X9_need x0 r1.1 r1.2)).bind fun r2 =>
  (hb_on r2.2 x0 9 (f_X9_refused x0 r2.1 r2.2)).bind fun r3 =>
  if r3.1 = 0 then
    (hb_on r3.2 x0 9 (f_X9_laysRetained x0 r3.2)).bind fun r5 =>
    (hb_on r5 x0 9 (f_X9_retainedBy x0 x1 r5)).bind fun r6 =>
    some (r6.1, r6.2)
  else
    some ((0 : Int32), r3.2)
def f_X9_bits_b4 : Nat → Int64 → Int32 → Int32 → hb_M → Option (Int32 × hb_M)
  | 0, _, _, _, _ => none
  | n + 1, x0, x2, x3, σ =>
    if (40 : Int32) ≤ x3 then
      some (x2, σ)
    else
      f_X9_bits_b4 n x0 (x2 + ((x0 >>> (x3.toInt64 &&& 63)) &&& (1 : Int64)).toInt32) (x3 + (1 : Int32)) σ
def f_X9_bits (x0 : Int64) (σ : hb_M) : Option (Int32 × hb_M) :=
  f_X9_bits_b4 hb_FU x0 (0 : Int32) (0 : Int32) σ
def f_X9_retainedObjects (x0 : Nat) (x1 : Int32) (σ : hb_M) : Option (Int32 × hb_M) :=
  (hb_on σ x0 9 (f_X9_isObject x0 x1 σ)).bind fun r1 =>
  (hb_on r1.2 x0 9 (f_X9_need x0 r1.1 r1.2)).bind fun r2 =>
  (hb_on r2.2 x0 9 (f_X9_refused x0 r2.1 r2.2)).bind fun r3 =>
  if r3.1 = 0 then
    (hb_on r3.2 x0 9 (f_X9_laysRetained x0 r3.2)).bind fun r5 =>
    (hb_getR r5 x0 9 12).bind fun r6 =>
    (hb_lald r5 r6 x1).bind fun r7 =>
    (f_X9_bits r7 r5).bind fun r8 =>
    some (r8.1, r8.2)
  else
    some ((0 : Int32), r3.2)
def f_X9_laysLeads_b91 (k45 : Nat → Int32 → hb_M → Option hb_M) (k53 : Nat → Int32 → Int32 → hb_M → Option hb_M) (x0 : Nat) (x1 : Int32) (x2 : Int32) (s0 : Nat) (s1 : Int32) (s2 : Int64) (s3 : Int64) (σ : hb_M) : Option hb_M :=
  (hb_last σ s0 s1 (s2 ||| s3)).bind fun r1 =>
  k53 x0 x1 (x2 + (1 : Int32)) r1
def f_X9_laysLeads_b53 (k45 : Nat → Int32 → hb_M → Option hb_M) : Nat → Nat → Int32 → Int32 → hb_M → Option hb_M
  | 0, _, _, _, _ => none
  | n + 1, x0, x1, x2, σ =>
    if (40 : Int32) ≤ x2 then
      k45 x0 (x1 + (1 : Int32)) σ
    else
      (hb_getR σ x0 9 15).bind fun r2 =>
      (hb_lald σ r2 x2).bind fun r3 =>
      (hb_getR σ x0 9 15).bind fun r4 =>
      (hb_lald σ r4 x2).bind fun r5 =>
      if (lg_cmp ((r5 >>> (x1.toInt64 &&& 63)) &&& (1 : Int64)) (1 : Int64)) = 0 then
        (hb_getR σ x0 9 15).bind fun r7 =>
        (hb_lald σ r7 x1).bind fun r8 =>
        f_X9_laysLeads_b91 k45 (f_X9_laysLeads_b53 k45 n) x0 x1 x2 r2 x2 r3 r8 σ
      else
        f_X9_laysLeads_b91 k45 (f_X9_laysLeads_b53 k45 n) x0 x1 x2 r2 x2 r3 (0 : Int64) σ
def f_X9_laysLeads_b45 : Nat → Nat → Int32 → hb_M → Option hb_M
  | 0, _, _, _ => none
  | n + 1, x0, x1, σ =>
    if (40 : Int32) ≤ x1 then
      some σ
    else
      f_X9_laysLeads_b53 (f_X9_laysLeads_b45 n) hb_FU x0 x1 (0 : Int32) σ
def f_X9_laysLeads_b36 (k2 : Nat → Int32 → hb_M → Option hb_M) (x0 : Nat) (x1 : Int32) (s0 : Nat) (s1 : Int32) (s2 : Int64) (σ : hb_M) : Option hb_M :=
  (hb_last σ s0 s1 s2).bind fun r1 =>
  k2 x0 (x1 + (1 : Int32)) r1
def f_X9_laysLeads_b2 : Nat → Nat → Int32 → hb_M → Option hb_M
  | 0, _, _, _ => none
  | n + 1, x0, x1, σ =>
    if (40 : Int32) ≤ x1 then
      f_X9_laysLeads_b45 hb_FU x0 (0 : Int32) σ
    else
      (hb_getR σ x0 9 15).bind fun r2 =>
      (hb_on σ x0 9 (f_X9_isObject x0 x1 σ)).bind fun r3 =>
      if r3.1 = 0 then
        f_X9_laysLeads_b36 (f_X9_laysLeads_b2 n) x0 x1 r2 x1 (0 : Int64) r3.2
      else
        (hb_on r3.2 x0 9 (f_X9_refersTo x0 x1 (-1 : Int32) (-1 : Int32) r3.2)).bind fun r5 =>
        f_X9_laysLeads_b36 (f_X9_laysLeads_b2 n) x0 x1 r2 x1 (r5.1 ||| ((1 : Int64) <<< (x1.toInt64 &&& 63))) r5.2
def f_X9_laysLeads (x0 : Nat) (σ : hb_M) : Option hb_M :=
  f_X9_laysLeads_b2 hb_FU x0 (0 : Int32) σ
def f_X9_componentOf_b53 (k5 : Nat → Int32 → Int64 → Int32 → hb_M → Option (Int64 × hb_M)) (x0 : Nat) (x1 : Int32) (x4 : Int32) (s0 : Int64) (s1 : Int64) (σ : hb_M) : Option (Int64 × hb_M) :=
  k5 x0 x1 (s0 ||| s1) (x4 + (1 : Int32)) σ
def f_X9_componentOf_b52 (k5 : Nat → Int32 → Int64 → Int32 → hb_M → Option (Int64 × hb_M)) (x0 : Nat) (x1 : Int32) (x4 : Int32) (s0 : Int64) (σ : hb_M) : Option (Int64 × hb_M) :=
  f_X9_componentOf_b53 k5 x0 x1 x4 s0 (0 : Int64) σ
def f_X9_componentOf_b5 : Nat → Nat → Int32 → Int64 → Int32 → hb_M → Option (Int64 × hb_M)
  | 0, _, _, _, _, _ => none
  | n + 1, x0, x1, x2, x4, σ =>
    if (40 : Int32) ≤ x4 then
      some (x2, σ)
    else
      (hb_getR σ x0 9 15).bind fun r2 =>
      (hb_lald σ r2 x1).bind fun r3 =>
      if (lg_cmp ((r3 >>> (x4.toInt64 &&& 63)) &&& (1 : Int64)) (1 : Int64)) = 0 then
        (hb_getR σ x0 9 15).bind fun r5 =>
        (hb_lald σ r5 x4).bind fun r6 =>
        if (lg_cmp ((r6 >>> (x1.toInt64 &&& 63)) &&& (1 : Int64)) (1 : Int64)) = 0 then
          f_X9_componentOf_b53 (f_X9_componentOf_b5 n) x0 x1 x4 x2 ((1 : Int64) <<< (x4.toInt64 &&& 63)) σ
        else
          f_X9_componentOf_b52 (f_X9_componentOf_b5 n) x0 x1 x4 x2 σ
      else
        f_X9_componentOf_b52 (f_X9_componentOf_b5 n) x0 x1 x4 x2 σ
def f_X9_componentOf (x0 : Nat) (x1 : Int32) (σ : hb_M) : Option (Int64 × hb_M) :=
  f_X9_componentOf_b5 hb_FU x0 x1 (0 : Int64) (0 : Int32) σ
def f_X9_component (x0 : Nat) (x1 : Int32) (σ : hb_M) : Option (Int32 × hb_M) :=
  (hb_on σ x0 9 (f_X9_isObject x0 x1 σ)).bind fun r1 =>
  (hb_on r1.2 x0 9 (f_X9_need x0 r1.1 r1.2)).bind fun r2 =>
  (hb_on r2.2 x0 9 (f_X9_refused x0 r2.1 r2.2)).bind fun r3 =>
  if r3.1 = 0 then
    (hb_on r3.2 x0 9 (f_X9_laysLeads x0 r3.2)).bind fun r5 =>
    (hb_on r5 x0 9 (f_X9_componentOf x0 x1 r5)).bind fun r6 =>
    (f_X9_first r6.1 r6.2).bind fun r7 =>
    some (r7.1, r7.2)
  else
    some ((0 : Int32), r3.2)
def f_X9_componentSize (x0 : Nat) (x1 : Int32) (σ : hb_M) : Option (Int32 × hb_M) :=
  (hb_on σ x0 9 (f_X9_isObject x0 x1 σ)).bind fun r1 =>
  (hb_on r1.2 x0 9 (f_X9_need x0 r1.1 r1.2)).bind fun r2 =>
  (hb_on r2.2 x0 9 (f_X9_refused x0 r2.1 r2.2)).bind fun r3 =>
  if r3.1 = 0 then
    (hb_on r3.2 x0 9 (f_X9_laysLeads x0 r3.2)).bind fun r5 =>
    (hb_on r5 x0 9 (f_X9_componentOf x0 x1 r5)).bind fun r6 =>
    (f_X9_bits r6.1 r6.2).bind fun r7 =>
    some (r7.1, r7.2)
  else
    some ((0 : Int32), r3.2)
def f_X9_freedByClearing (x0 : Nat) (x1 : Int32) (x2 : Int32) (σ : hb_M) : Option (Int32 × hb_M) :=
  (hb_on σ x0 9 (f_X9_isSlot x0 x1 x2 σ)).bind fun r1 =>
  (hb_on r1.2 x0 9 (f_X9_need x0 r1.1 r1.2)).bind fun r2 =>
  (hb_on r2.2 x0 9 (f_X9_refused x0 r2.1 r2.2)).bind fun r3 =>
  if r3.1 = 0 then
    (hb_on r3.2 x0 9 (f_X9_reached x0 (0 : Int64) (-1 : Int32) (-1 : Int32) (-1 : Int32) r3.2)).bind fun r5 =>
    (hb_on r5.2 x0 9 (f_X9_reached x0 (0 : Int64) x1 x2 (-1 : Int32) r5.2)).bind fun r6 =>
    (hb_on r6.2 x0 9 (f_X9_sizes x0 (r5.1 &&& (r6.1 ^^^ (-1 : Int64))) r6.2)).bind fun r7 =>
    some (r7.1.toInt32, r7.2)
  else
    some ((0 : Int32), r3.2)
def f_X9_freedByUnrooting (x0 : Nat) (x1 : Int32) (σ : hb_M) : Option (Int32 × hb_M) :=
  (hb_on σ x0 9 (f_X9_isObject x0 x1 σ)).bind fun r1 =>
  (hb_on r1.2 x0 9 (f_X9_need x0 r1.1 r1.2)).bind fun r2 =>
  (hb_on r2.2 x0 9 (f_X9_refused x0 r2.1 r2.2)).bind fun r3 =>
  if r3.1 = 0 then
    (hb_on r3.2 x0 9 (f_X9_reached x0 (0 : Int64) (-1 : Int32) (-1 : Int32) (-1 : Int32) r3.2)).bind fun r5 =>
    (hb_on r5.2 x0 9 (f_X9_reached x0 (0 : Int64) (-1 : Int32) (-1 : Int32) x1 r5.2)).bind fun r6 =>
    (hb_on r6.2 x0 9 (f_X9_sizes x0 (r5.1 &&& (r6.1 ^^^ (-1 : Int64))) r6.2)).bind fun r7 =>
    some (r7.1.toInt32, r7.2)
  else
    some ((0 : Int32), r3.2)
