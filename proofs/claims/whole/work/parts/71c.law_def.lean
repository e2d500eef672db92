def f_L_law_b2704 (L9 : Nat) (xs9 : Nat → Int32) (k23 : Nat → Nat → Nat → Int32 → hb_M → Option (Int32 × hb_M)) (x1 : Nat) (x2 : Nat) (x3 : Nat) (x4 : Int32) (σ : hb_M) : Option (Int32 × hb_M) :=
  k23 x1 x2 x3 (x4 + (4 : Int32)) σ
def f_L_law_b2690 (L9 : Nat) (xs9 : Nat → Int32) (k23 : Nat → Nat → Nat → Int32 → hb_M → Option (Int32 × hb_M)) (x1 : Nat) (x2 : Nat) (x3 : Nat) (x4 : Int32) (σ : hb_M) : Option (Int32 × hb_M) :=
  (hb_on σ x1 8 (f_X8_digest x1 σ)).bind fun r1 =>
  (hb_on r1.2 x2 9 (f_X9_digest x2 r1.2)).bind fun r2 =>
  if (lg_cmp r1.1 r2.1) = 0 then
    f_L_law_b2704 L9 xs9 k23 x1 x2 x3 x4 r2.2
  else
    some ((0 : Int32), r2.2)
def f_L_law_b2687 (L9 : Nat) (xs9 : Nat → Int32) (k23 : Nat → Nat → Nat → Int32 → hb_M → Option (Int32 × hb_M)) (x1 : Nat) (x2 : Nat) (x3 : Nat) (x4 : Int32) (σ : hb_M) : Option (Int32 × hb_M) :=
  f_L_law_b2704 L9 xs9 k23 x1 x2 x3 x4 σ
def f_L_law_b2646 (L9 : Nat) (xs9 : Nat → Int32) (k23 : Nat → Nat → Nat → Int32 → hb_M → Option (Int32 × hb_M)) (x1 : Nat) (x2 : Nat) (x3 : Nat) (x4 : Int32) (σ : hb_M) : Option (Int32 × hb_M) :=
  (f_L_undo x1 x3 σ).bind fun r1 =>
  (hb_on r1.2 x2 9 (f_X9_undo x2 r1.2)).bind fun r2 =>
  (hb_on r2.2 x2 9 (f_X9_thrown x2 r2.2)).bind fun r3 =>
  if r3.1 = r1.1 then
    if r1.1 = 0 then
      (hb_lald r3.2 x3 (0 : Int32)).bind fun r6 =>
      if (lg_cmp r6 r2.1.toInt64) = 0 then
        f_L_law_b2687 L9 xs9 k23 x1 x2 x3 x4 r3.2
      else
        some ((0 : Int32), r3.2)
    else
      f_L_law_b2687 L9 xs9 k23 x1 x2 x3 x4 r3.2
  else
    some ((0 : Int32), r3.2)
def f_L_law_b2643 (L9 : Nat) (xs9 : Nat → Int32) (k23 : Nat → Nat → Nat → Int32 → hb_M → Option (Int32 × hb_M)) (x1 : Nat) (x2 : Nat) (x3 : Nat) (x4 : Int32) (σ : hb_M) : Option (Int32 × hb_M) :=
  f_L_law_b2704 L9 xs9 k23 x1 x2 x3 x4 σ
def f_L_law_b2578 (L9 : Nat) (xs9 : Nat → Int32) (k23 : Nat → Nat → Nat → Int32 → hb_M → Option (Int32 × hb_M)) (x1 : Nat) (x2 : Nat) (x3 : Nat) (x4 : Int32) (σ : hb_M) : Option (Int32 × hb_M) :=
  if (x4 + (1 : Int32)) < 0 ∨ L9 ≤ (x4 + (1 : Int32)).toNatClampNeg then none else
  if (x4 + (2 : Int32)) < 0 ∨ L9 ≤ (x4 + (2 : Int32)).toNatClampNeg then none else
  (f_L_growth x1 (xs9 (x4 + (1 : Int32)).toNatClampNeg) (xs9 (x4 + (2 : Int32)).toNatClampNeg) x3 σ).bind fun r3 =>
  if (x4 + (1 : Int32)) < 0 ∨ L9 ≤ (x4 + (1 : Int32)).toNatClampNeg then none else
  if (x4 + (2 : Int32)) < 0 ∨ L9 ≤ (x4 + (2 : Int32)).toNatClampNeg then none else
  (hb_on r3.2 x2 9 (f_X9_growth x2 (xs9 (x4 + (1 : Int32)).toNatClampNeg) (xs9 (x4 + (2 : Int32)).toNatClampNeg) r3.2)).bind fun r6 =>
  (hb_on r6.2 x2 9 (f_X9_thrown x2 r6.2)).bind fun r7 =>
  if r7.1 = r3.1 then
    if r3.1 = 0 then
      (hb_lald r7.2 x3 (0 : Int32)).bind fun r10 =>
      if (lg_cmp r10 r6.1.toInt64) = 0 then
        f_L_law_b2643 L9 xs9 k23 x1 x2 x3 x4 r7.2
      else
        some ((0 : Int32), r7.2)
    else
      f_L_law_b2643 L9 xs9 k23 x1 x2 x3 x4 r7.2
  else
    some ((0 : Int32), r7.2)
def f_L_law_b2575 (L9 : Nat) (xs9 : Nat → Int32) (k23 : Nat → Nat → Nat → Int32 → hb_M → Option (Int32 × hb_M)) (x1 : Nat) (x2 : Nat) (x3 : Nat) (x4 : Int32) (σ : hb_M) : Option (Int32 × hb_M) :=
  f_L_law_b2704 L9 xs9 k23 x1 x2 x3 x4 σ
def f_L_law_b2510 (L9 : Nat) (xs9 : Nat → Int32) (k23 : Nat → Nat → Nat → Int32 → hb_M → Option (Int32 × hb_M)) (x1 : Nat) (x2 : Nat) (x3 : Nat) (x4 : Int32) (σ : hb_M) : Option (Int32 × hb_M) :=
  if (x4 + (1 : Int32)) < 0 ∨ L9 ≤ (x4 + (1 : Int32)).toNatClampNeg then none else
  if (x4 + (2 : Int32)) < 0 ∨ L9 ≤ (x4 + (2 : Int32)).toNatClampNeg then none else
  (f_L_compare x1 (xs9 (x4 + (1 : Int32)).toNatClampNeg) (xs9 (x4 + (2 : Int32)).toNatClampNeg) x3 σ).bind fun r3 =>
  if (x4 + (1 : Int32)) < 0 ∨ L9 ≤ (x4 + (1 : Int32)).toNatClampNeg then none else
  if (x4 + (2 : Int32)) < 0 ∨ L9 ≤ (x4 + (2 : Int32)).toNatClampNeg then none else
  (hb_on r3.2 x2 9 (f_X9_compare x2 (xs9 (x4 + (1 : Int32)).toNatClampNeg) (xs9 (x4 + (2 : Int32)).toNatClampNeg) r3.2)).bind fun r6 =>
  (hb_on r6.2 x2 9 (f_X9_thrown x2 r6.2)).bind fun r7 =>
  if r7.1 = r3.1 then
    if r3.1 = 0 then
      (hb_lald r7.2 x3 (0 : Int32)).bind fun r10 =>
      if (lg_cmp r10 r6.1.toInt64) = 0 then
        f_L_law_b2575 L9 xs9 k23 x1 x2 x3 x4 r7.2
      else
        some ((0 : Int32), r7.2)
    else
      f_L_law_b2575 L9 xs9 k23 x1 x2 x3 x4 r7.2
  else
    some ((0 : Int32), r7.2)
def f_L_law_b2507 (L9 : Nat) (xs9 : Nat → Int32) (k23 : Nat → Nat → Nat → Int32 → hb_M → Option (Int32 × hb_M)) (x1 : Nat) (x2 : Nat) (x3 : Nat) (x4 : Int32) (σ : hb_M) : Option (Int32 × hb_M) :=
  f_L_law_b2704 L9 xs9 k23 x1 x2 x3 x4 σ
def f_L_law_b2454 (L9 : Nat) (xs9 : Nat → Int32) (k23 : Nat → Nat → Nat → Int32 → hb_M → Option (Int32 × hb_M)) (x1 : Nat) (x2 : Nat) (x3 : Nat) (x4 : Int32) (σ : hb_M) : Option (Int32 × hb_M) :=
  if (x4 + (1 : Int32)) < 0 ∨ L9 ≤ (x4 + (1 : Int32)).toNatClampNeg then none else
  (f_L_take x1 (xs9 (x4 + (1 : Int32)).toNatClampNeg) x3 σ).bind fun r2 =>
  if (x4 + (1 : Int32)) < 0 ∨ L9 ≤ (x4 + (1 : Int32)).toNatClampNeg then none else
  (hb_on r2.2 x2 9 (f_X9_take x2 (xs9 (x4 + (1 : Int32)).toNatClampNeg) r2.2)).bind fun r4 =>
  (hb_on r4.2 x2 9 (f_X9_thrown x2 r4.2)).bind fun r5 =>
  if r5.1 = r2.1 then
    if r2.1 = 0 then
      (hb_lald r5.2 x3 (0 : Int32)).bind fun r8 =>
      if (lg_cmp r8 r4.1.toInt64) = 0 then
        f_L_law_b2507 L9 xs9 k23 x1 x2 x3 x4 r5.2
      else
        some ((0 : Int32), r5.2)
    else
      f_L_law_b2507 L9 xs9 k23 x1 x2 x3 x4 r5.2
  else
    some ((0 : Int32), r5.2)
def f_L_law_b2441 (L9 : Nat) (xs9 : Nat → Int32) (k23 : Nat → Nat → Nat → Int32 → hb_M → Option (Int32 × hb_M)) (x1 : Nat) (x2 : Nat) (x3 : Nat) (x4 : Int32) (σ : hb_M) : Option (Int32 × hb_M) :=
  (hb_on σ x1 8 (f_X8_execute x1 σ)).bind fun r1 =>
  (hb_on r1.2 x2 9 (f_X9_execute x2 r1.2)).bind fun r2 =>
  if r1.1 = r2.1 then
    f_L_law_b2704 L9 xs9 k23 x1 x2 x3 x4 r2.2
  else
    some ((0 : Int32), r2.2)
def f_L_law_b2433 (L9 : Nat) (xs9 : Nat → Int32) (k23 : Nat → Nat → Nat → Int32 → hb_M → Option (Int32 × hb_M)) (x1 : Nat) (x2 : Nat) (x3 : Nat) (x4 : Int32) (s0 : Int32) (s1 : Nat) (s2 : Int32) (σ : hb_M) : Option (Int32 × hb_M) :=
  (hb_on σ s1 9 (f_X9_matchSize s1 s2 σ)).bind fun r1 =>
  if s0 = r1.1 then
    f_L_law_b2704 L9 xs9 k23 x1 x2 x3 x4 r1.2
  else
    some ((0 : Int32), r1.2)
def f_L_law_b2415 (L9 : Nat) (xs9 : Nat → Int32) (k23 : Nat → Nat → Nat → Int32 → hb_M → Option (Int32 × hb_M)) (x1 : Nat) (x2 : Nat) (x3 : Nat) (x4 : Int32) (s0 : Nat) (s1 : Int32) (σ : hb_M) : Option (Int32 × hb_M) :=
  (hb_on σ s0 8 (f_X8_matchSize s0 s1 σ)).bind fun r1 =>
  if (x4 + (1 : Int32)) < 0 ∨ L9 ≤ (x4 + (1 : Int32)).toNatClampNeg then none else
  if (xs9 (x4 + (1 : Int32)).toNatClampNeg) = 0 then
    f_L_law_b2433 L9 xs9 k23 x1 x2 x3 x4 r1.1 x2 (0 : Int32) r1.2
  else
    f_L_law_b2433 L9 xs9 k23 x1 x2 x3 x4 r1.1 x2 (1 : Int32) r1.2
def f_L_law_b2400 (L9 : Nat) (xs9 : Nat → Int32) (k23 : Nat → Nat → Nat → Int32 → hb_M → Option (Int32 × hb_M)) (x1 : Nat) (x2 : Nat) (x3 : Nat) (x4 : Int32) (σ : hb_M) : Option (Int32 × hb_M) :=
  if (x4 + (1 : Int32)) < 0 ∨ L9 ≤ (x4 + (1 : Int32)).toNatClampNeg then none else
  if (xs9 (x4 + (1 : Int32)).toNatClampNeg) = 0 then
    f_L_law_b2415 L9 xs9 k23 x1 x2 x3 x4 x1 (0 : Int32) σ
  else
    f_L_law_b2415 L9 xs9 k23 x1 x2 x3 x4 x1 (1 : Int32) σ
def f_L_law_b2375 (L9 : Nat) (xs9 : Nat → Int32) (k23 : Nat → Nat → Nat → Int32 → hb_M → Option (Int32 × hb_M)) (x1 : Nat) (x2 : Nat) (x3 : Nat) (x4 : Int32) (σ : hb_M) : Option (Int32 × hb_M) :=
  if (x4 + (1 : Int32)) < 0 ∨ L9 ≤ (x4 + (1 : Int32)).toNatClampNeg then none else
  (hb_on σ x1 8 (f_X8_matchAt x1 (xs9 (x4 + (1 : Int32)).toNatClampNeg) σ)).bind fun r2 =>
  if (x4 + (1 : Int32)) < 0 ∨ L9 ≤ (x4 + (1 : Int32)).toNatClampNeg then none else
  (hb_on r2.2 x2 9 (f_X9_matchAt x2 (xs9 (x4 + (1 : Int32)).toNatClampNeg) r2.2)).bind fun r4 =>
  if r2.1 = r4.1 then
    f_L_law_b2704 L9 xs9 k23 x1 x2 x3 x4 r4.2
  else
    some ((0 : Int32), r4.2)
def f_L_law_b2362 (L9 : Nat) (xs9 : Nat → Int32) (k23 : Nat → Nat → Nat → Int32 → hb_M → Option (Int32 × hb_M)) (x1 : Nat) (x2 : Nat) (x3 : Nat) (x4 : Int32) (σ : hb_M) : Option (Int32 × hb_M) :=
  (hb_on σ x1 8 (f_X8_matches x1 σ)).bind fun r1 =>
  (hb_on r1.2 x2 9 (f_X9_matches x2 r1.2)).bind fun r2 =>
  if r1.1 = r2.1 then
    f_L_law_b2704 L9 xs9 k23 x1 x2 x3 x4 r2.2
  else
    some ((0 : Int32), r2.2)
def f_L_law_b2349 (L9 : Nat) (xs9 : Nat → Int32) (k23 : Nat → Nat → Nat → Int32 → hb_M → Option (Int32 × hb_M)) (x1 : Nat) (x2 : Nat) (x3 : Nat) (x4 : Int32) (σ : hb_M) : Option (Int32 × hb_M) :=
  (hb_on σ x1 8 (f_X8_clearText x1 σ)).bind fun r1 =>
  (hb_on r1.2 x2 9 (f_X9_clearText x2 r1.2)).bind fun r2 =>
  if r1.1 = r2.1 then
    f_L_law_b2704 L9 xs9 k23 x1 x2 x3 x4 r2.2
  else
    some ((0 : Int32), r2.2)
def f_L_law_b2346 (L9 : Nat) (xs9 : Nat → Int32) (k23 : Nat → Nat → Nat → Int32 → hb_M → Option (Int32 × hb_M)) (x1 : Nat) (x2 : Nat) (x3 : Nat) (x4 : Int32) (σ : hb_M) : Option (Int32 × hb_M) :=
  f_L_law_b2704 L9 xs9 k23 x1 x2 x3 x4 σ
def f_L_law_b2293 (L9 : Nat) (xs9 : Nat → Int32) (k23 : Nat → Nat → Nat → Int32 → hb_M → Option (Int32 × hb_M)) (x1 : Nat) (x2 : Nat) (x3 : Nat) (x4 : Int32) (σ : hb_M) : Option (Int32 × hb_M) :=
  if (x4 + (1 : Int32)) < 0 ∨ L9 ≤ (x4 + (1 : Int32)).toNatClampNeg then none else
  (f_L_append x1 (xs9 (x4 + (1 : Int32)).toNatClampNeg) x3 σ).bind fun r2 =>
  if (x4 + (1 : Int32)) < 0 ∨ L9 ≤ (x4 + (1 : Int32)).toNatClampNeg then none else
  (hb_on r2.2 x2 9 (f_X9_append x2 (xs9 (x4 + (1 : Int32)).toNatClampNeg) r2.2)).bind fun r4 =>
  (hb_on r4.2 x2 9 (f_X9_thrown x2 r4.2)).bind fun r5 =>
  if r5.1 = r2.1 then
    if r2.1 = 0 then
      (hb_lald r5.2 x3 (0 : Int32)).bind fun r8 =>
      if (lg_cmp r8 r4.1.toInt64) = 0 then
        f_L_law_b2346 L9 xs9 k23 x1 x2 x3 x4 r5.2
      else
        some ((0 : Int32), r5.2)
    else
      f_L_law_b2346 L9 xs9 k23 x1 x2 x3 x4 r5.2
  else
    some ((0 : Int32), r5.2)
def f_L_law_b2290 (L9 : Nat) (xs9 : Nat → Int32) (k23 : Nat → Nat → Nat → Int32 → hb_M → Option (Int32 × hb_M)) (x1 : Nat) (x2 : Nat) (x3 : Nat) (x4 : Int32) (σ : hb_M) : Option (Int32 × hb_M) :=
  f_L_law_b2704 L9 xs9 k23 x1 x2 x3 x4 σ
def f_L_law_b2225 (L9 : Nat) (xs9 : Nat → Int32) (k23 : Nat → Nat → Nat → Int32 → hb_M → Option (Int32 × hb_M)) (x1 : Nat) (x2 : Nat) (x3 : Nat) (x4 : Int32) (σ : hb_M) : Option (Int32 × hb_M) :=
  if (x4 + (1 : Int32)) < 0 ∨ L9 ≤ (x4 + (1 : Int32)).toNatClampNeg then none else
  if (x4 + (2 : Int32)) < 0 ∨ L9 ≤ (x4 + (2 : Int32)).toNatClampNeg then none else
  (f_L_accumulationPoint x1 (xs9 (x4 + (1 : Int32)).toNatClampNeg) (xs9 (x4 + (2 : Int32)).toNatClampNeg) x3 σ).bind fun r3 =>
  if (x4 + (1 : Int32)) < 0 ∨ L9 ≤ (x4 + (1 : Int32)).toNatClampNeg then none else
  if (x4 + (2 : Int32)) < 0 ∨ L9 ≤ (x4 + (2 : Int32)).toNatClampNeg then none else
  (hb_on r3.2 x2 9 (f_X9_accumulationPoint x2 (xs9 (x4 + (1 : Int32)).toNatClampNeg) (xs9 (x4 + (2 : Int32)).toNatClampNeg) r3.2)).bind fun r6 =>
  (hb_on r6.2 x2 9 (f_X9_thrown x2 r6.2)).bind fun r7 =>
  if r7.1 = r3.1 then
    if r3.1 = 0 then
      (hb_lald r7.2 x3 (0 : Int32)).bind fun r10 =>
      if (lg_cmp r10 r6.1.toInt64) = 0 then
        f_L_law_b2290 L9 xs9 k23 x1 x2 x3 x4 r7.2
      else
        some ((0 : Int32), r7.2)
    else
      f_L_law_b2290 L9 xs9 k23 x1 x2 x3 x4 r7.2
  else
    some ((0 : Int32), r7.2)
def f_L_law_b2222 (L9 : Nat) (xs9 : Nat → Int32) (k23 : Nat → Nat → Nat → Int32 → hb_M → Option (Int32 × hb_M)) (x1 : Nat) (x2 : Nat) (x3 : Nat) (x4 : Int32) (σ : hb_M) : Option (Int32 × hb_M) :=
  f_L_law_b2704 L9 xs9 k23 x1 x2 x3 x4 σ
def f_L_law_b2157 (L9 : Nat) (xs9 : Nat → Int32) (k23 : Nat → Nat → Nat → Int32 → hb_M → Option (Int32 × hb_M)) (x1 : Nat) (x2 : Nat) (x3 : Nat) (x4 : Int32) (σ : hb_M) : Option (Int32 × hb_M) :=
  if (x4 + (1 : Int32)) < 0 ∨ L9 ≤ (x4 + (1 : Int32)).toNatClampNeg then none else
  if (x4 + (2 : Int32)) < 0 ∨ L9 ≤ (x4 + (2 : Int32)).toNatClampNeg then none else
  (f_L_suspectAt x1 (xs9 (x4 + (1 : Int32)).toNatClampNeg) (xs9 (x4 + (2 : Int32)).toNatClampNeg) x3 σ).bind fun r3 =>
  if (x4 + (1 : Int32)) < 0 ∨ L9 ≤ (x4 + (1 : Int32)).toNatClampNeg then none else
  if (x4 + (2 : Int32)) < 0 ∨ L9 ≤ (x4 + (2 : Int32)).toNatClampNeg then none else
  (hb_on r3.2 x2 9 (f_X9_suspectAt x2 (xs9 (x4 + (1 : Int32)).toNatClampNeg) (xs9 (x4 + (2 : Int32)).toNatClampNeg) r3.2)).bind fun r6 =>
  (hb_on r6.2 x2 9 (f_X9_thrown x2 r6.2)).bind fun r7 =>
  if r7.1 = r3.1 then
    if r3.1 = 0 then
      (hb_lald r7.2 x3 (0 : Int32)).bind fun r10 =>
      if (lg_cmp r10 r6.1.toInt64) = 0 then
        f_L_law_b2222 L9 xs9 k23 x1 x2 x3 x4 r7.2
      else
        some ((0 : Int32), r7.2)
    else
      f_L_law_b2222 L9 xs9 k23 x1 x2 x3 x4 r7.2
  else
    some ((0 : Int32), r7.2)
def f_L_law_b2154 (L9 : Nat) (xs9 : Nat → Int32) (k23 : Nat → Nat → Nat → Int32 → hb_M → Option (Int32 × hb_M)) (x1 : Nat) (x2 : Nat) (x3 : Nat) (x4 : Int32) (σ : hb_M) : Option (Int32 × hb_M) :=
  f_L_law_b2704 L9 xs9 k23 x1 x2 x3 x4 σ
def f_L_law_b2101 (L9 : Nat) (xs9 : Nat → Int32) (k23 : Nat → Nat → Nat → Int32 → hb_M → Option (Int32 × hb_M)) (x1 : Nat) (x2 : Nat) (x3 : Nat) (x4 : Int32) (σ : hb_M) : Option (Int32 × hb_M) :=
  if (x4 + (1 : Int32)) < 0 ∨ L9 ≤ (x4 + (1 : Int32)).toNatClampNeg then none else
  (f_L_shareBits x1 (xs9 (x4 + (1 : Int32)).toNatClampNeg) x3 σ).bind fun r2 =>
  if (x4 + (1 : Int32)) < 0 ∨ L9 ≤ (x4 + (1 : Int32)).toNatClampNeg then none else
  (hb_on r2.2 x2 9 (f_X9_shareBits x2 (xs9 (x4 + (1 : Int32)).toNatClampNeg) r2.2)).bind fun r4 =>
  (hb_on r4.2 x2 9 (f_X9_thrown x2 r4.2)).bind fun r5 =>
  if r5.1 = r2.1 then
    if r2.1 = 0 then
      (hb_lald r5.2 x3 (0 : Int32)).bind fun r8 =>
      if (lg_cmp r8 r4.1.toInt64) = 0 then
        f_L_law_b2154 L9 xs9 k23 x1 x2 x3 x4 r5.2
      else
        some ((0 : Int32), r5.2)
    else
      f_L_law_b2154 L9 xs9 k23 x1 x2 x3 x4 r5.2
  else
    some ((0 : Int32), r5.2)
def f_L_law_b2098 (L9 : Nat) (xs9 : Nat → Int32) (k23 : Nat → Nat → Nat → Int32 → hb_M → Option (Int32 × hb_M)) (x1 : Nat) (x2 : Nat) (x3 : Nat) (x4 : Int32) (σ : hb_M) : Option (Int32 × hb_M) :=
  f_L_law_b2704 L9 xs9 k23 x1 x2 x3 x4 σ
def f_L_law_b2046 (L9 : Nat) (xs9 : Nat → Int32) (k23 : Nat → Nat → Nat → Int32 → hb_M → Option (Int32 × hb_M)) (x1 : Nat) (x2 : Nat) (x3 : Nat) (x4 : Int32) (σ : hb_M) : Option (Int32 × hb_M) :=
  if (x4 + (1 : Int32)) < 0 ∨ L9 ≤ (x4 + (1 : Int32)).toNatClampNeg then none else
  (f_L_meanRetainedBits x1 (xs9 (x4 + (1 : Int32)).toNatClampNeg) x3 σ).bind fun r2 =>
  if (x4 + (1 : Int32)) < 0 ∨ L9 ≤ (x4 + (1 : Int32)).toNatClampNeg then none else
  (hb_on r2.2 x2 9 (f_X9_meanRetainedBits x2 (xs9 (x4 + (1 : Int32)).toNatClampNeg) r2.2)).bind fun r4 =>
  (hb_on r4.2 x2 9 (f_X9_thrown x2 r4.2)).bind fun r5 =>
  if r5.1 = r2.1 then
    if r2.1 = 0 then
      (hb_lald r5.2 x3 (0 : Int32)).bind fun r8 =>
      if (lg_cmp r8 r4.1) = 0 then
        f_L_law_b2098 L9 xs9 k23 x1 x2 x3 x4 r5.2
      else
        some ((0 : Int32), r5.2)
    else
      f_L_law_b2098 L9 xs9 k23 x1 x2 x3 x4 r5.2
  else
    some ((0 : Int32), r5.2)
def f_L_law_b2043 (L9 : Nat) (xs9 : Nat → Int32) (k23 : Nat → Nat → Nat → Int32 → hb_M → Option (Int32 × hb_M)) (x1 : Nat) (x2 : Nat) (x3 : Nat) (x4 : Int32) (σ : hb_M) : Option (Int32 × hb_M) :=
  f_L_law_b2704 L9 xs9 k23 x1 x2 x3 x4 σ
def f_L_law_b2010 (L9 : Nat) (xs9 : Nat → Int32) (k23 : Nat → Nat → Nat → Int32 → hb_M → Option (Int32 × hb_M)) (x1 : Nat) (x2 : Nat) (x3 : Nat) (x4 : Int32) (x5 : Int32) (s0 : Nat) (s1 : Int32) (s2 : Int32) (s3 : Int32) (σ : hb_M) : Option (Int32 × hb_M) :=
  (hb_on σ s0 9 (f_X9_group s0 s1 s2 s3 σ)).bind fun r1 =>
  (hb_on r1.2 x2 9 (f_X9_thrown x2 r1.2)).bind fun r2 =>
  if r2.1 = x5 then
    if x5 = 0 then
      (hb_lald r2.2 x3 (0 : Int32)).bind fun r5 =>
      if (lg_cmp r5 r1.1.toInt64) = 0 then
        f_L_law_b2043 L9 xs9 k23 x1 x2 x3 x4 r2.2
      else
        some ((0 : Int32), r2.2)
    else
      f_L_law_b2043 L9 xs9 k23 x1 x2 x3 x4 r2.2
  else
    some ((0 : Int32), r2.2)
def f_L_law_b1977 (L9 : Nat) (xs9 : Nat → Int32) (k23 : Nat → Nat → Nat → Int32 → hb_M → Option (Int32 × hb_M)) (x1 : Nat) (x2 : Nat) (x3 : Nat) (x4 : Int32) (s0 : Nat) (s1 : Int32) (s2 : Int32) (s3 : Int32) (σ : hb_M) : Option (Int32 × hb_M) :=
  (f_L_group s0 s1 s2 s3 x3 σ).bind fun r1 =>
  if (x4 + (1 : Int32)) < 0 ∨ L9 ≤ (x4 + (1 : Int32)).toNatClampNeg then none else
  if (x4 + (2 : Int32)) < 0 ∨ L9 ≤ (x4 + (2 : Int32)).toNatClampNeg then none else
  if (x4 + (3 : Int32)) < 0 ∨ L9 ≤ (x4 + (3 : Int32)).toNatClampNeg then none else
  if (xs9 (x4 + (3 : Int32)).toNatClampNeg) = 0 then
    f_L_law_b2010 L9 xs9 k23 x1 x2 x3 x4 r1.1 x2 (xs9 (x4 + (1 : Int32)).toNatClampNeg) (xs9 (x4 + (2 : Int32)).toNatClampNeg) (0 : Int32) r1.2
  else
    f_L_law_b2010 L9 xs9 k23 x1 x2 x3 x4 r1.1 x2 (xs9 (x4 + (1 : Int32)).toNatClampNeg) (xs9 (x4 + (2 : Int32)).toNatClampNeg) (1 : Int32) r1.2
def f_L_law_b1950 (L9 : Nat) (xs9 : Nat → Int32) (k23 : Nat → Nat → Nat → Int32 → hb_M → Option (Int32 × hb_M)) (x1 : Nat) (x2 : Nat) (x3 : Nat) (x4 : Int32) (σ : hb_M) : Option (Int32 × hb_M) :=
  if (x4 + (1 : Int32)) < 0 ∨ L9 ≤ (x4 + (1 : Int32)).toNatClampNeg then none else
  if (x4 + (2 : Int32)) < 0 ∨ L9 ≤ (x4 + (2 : Int32)).toNatClampNeg then none else
  if (x4 + (3 : Int32)) < 0 ∨ L9 ≤ (x4 + (3 : Int32)).toNatClampNeg then none else
  if (xs9 (x4 + (3 : Int32)).toNatClampNeg) = 0 then
    f_L_law_b1977 L9 xs9 k23 x1 x2 x3 x4 x1 (xs9 (x4 + (1 : Int32)).toNatClampNeg) (xs9 (x4 + (2 : Int32)).toNatClampNeg) (0 : Int32) σ
  else
    f_L_law_b1977 L9 xs9 k23 x1 x2 x3 x4 x1 (xs9 (x4 + (1 : Int32)).toNatClampNeg) (xs9 (x4 + (2 : Int32)).toNatClampNeg) (1 : Int32) σ
def f_L_law_b1947 (L9 : Nat) (xs9 : Nat → Int32) (k23 : Nat → Nat → Nat → Int32 → hb_M → Option (Int32 × hb_M)) (x1 : Nat) (x2 : Nat) (x3 : Nat) (x4 : Int32) (σ : hb_M) : Option (Int32 × hb_M) :=
  f_L_law_b2704 L9 xs9 k23 x1 x2 x3 x4 σ
def f_L_law_b1894 (L9 : Nat) (xs9 : Nat → Int32) (k23 : Nat → Nat → Nat → Int32 → hb_M → Option (Int32 × hb_M)) (x1 : Nat) (x2 : Nat) (x3 : Nat) (x4 : Int32) (σ : hb_M) : Option (Int32 × hb_M) :=
  if (x4 + (1 : Int32)) < 0 ∨ L9 ≤ (x4 + (1 : Int32)).toNatClampNeg then none else
  (f_L_freedByUnrooting x1 (xs9 (x4 + (1 : Int32)).toNatClampNeg) x3 σ).bind fun r2 =>
  if (x4 + (1 : Int32)) < 0 ∨ L9 ≤ (x4 + (1 : Int32)).toNatClampNeg then none else
  (hb_on r2.2 x2 9 (f_X9_freedByUnrooting x2 (xs9 (x4 + (1 : Int32)).toNatClampNeg) r2.2)).bind fun r4 =>
  (hb_on r4.2 x2 9 (f_X9_thrown x2 r4.2)).bind fun r5 =>
  if r5.1 = r2.1 then
    if r2.1 = 0 then
      (hb_lald r5.2 x3 (0 : Int32)).bind fun r8 =>
      if (lg_cmp r8 r4.1.toInt64) = 0 then
        f_L_law_b1947 L9 xs9 k23 x1 x2 x3 x4 r5.2
      else
        some ((0 : Int32), r5.2)
    else
      f_L_law_b1947 L9 xs9 k23 x1 x2 x3 x4 r5.2
  else
    some ((0 : Int32), r5.2)
def f_L_law_b1891 (L9 : Nat) (xs9 : Nat → Int32) (k23 : Nat → Nat → Nat → Int32 → hb_M → Option (Int32 × hb_M)) (x1 : Nat) (x2 : Nat) (x3 : Nat) (x4 : Int32) (σ : hb_M) : Option (Int32 × hb_M) :=
  f_L_law_b2704 L9 xs9 k23 x1 x2 x3 x4 σ
def f_L_law_b1826 (L9 : Nat) (xs9 : Nat → Int32) (k23 : Nat → Nat → Nat → Int32 → hb_M → Option (Int32 × hb_M)) (x1 : Nat) (x2 : Nat) (x3 : Nat) (x4 : Int32) (σ : hb_M) : Option (Int32 × hb_M) :=
  if (x4 + (1 : Int32)) < 0 ∨ L9 ≤ (x4 + (1 : Int32)).toNatClampNeg then none else
  if (x4 + (2 : Int32)) < 0 ∨ L9 ≤ (x4 + (2 : Int32)).toNatClampNeg then none else
  (f_L_freedByClearing x1 (xs9 (x4 + (1 : Int32)).toNatClampNeg) (xs9 (x4 + (2 : Int32)).toNatClampNeg) x3 σ).bind fun r3 =>
  if (x4 + (1 : Int32)) < 0 ∨ L9 ≤ (x4 + (1 : Int32)).toNatClampNeg then none else
  if (x4 + (2 : Int32)) < 0 ∨ L9 ≤ (x4 + (2 : Int32)).toNatClampNeg then none else
  (hb_on r3.2 x2 9 (f_X9_freedByClearing x2 (xs9 (x4 + (1 : Int32)).toNatClampNeg) (xs9 (x4 + (2 : Int32)).toNatClampNeg) r3.2)).bind fun r6 =>
  (hb_on r6.2 x2 9 (f_X9_thrown x2 r6.2)).bind fun r7 =>
  if r7.1 = r3.1 then
    if r3.1 = 0 then
      (hb_lald r7.2 x3 (0 : Int32)).bind fun r10 =>
      if (lg_cmp r10 r6.1.toInt64) = 0 then
        f_L_law_b1891 L9 xs9 k23 x1 x2 x3 x4 r7.2
      else
        some ((0 : Int32), r7.2)
    else
      f_L_law_b1891 L9 xs9 k23 x1 x2 x3 x4 r7.2
  else
    some ((0 : Int32), r7.2)
def f_L_law_b1823 (L9 : Nat) (xs9 : Nat → Int32) (k23 : Nat → Nat → Nat → Int32 → hb_M → Option (Int32 × hb_M)) (x1 : Nat) (x2 : Nat) (x3 : Nat) (x4 : Int32) (σ : hb_M) : Option (Int32 × hb_M) :=
  f_L_law_b2704 L9 xs9 k23 x1 x2 x3 x4 σ
def f_L_law_b1770 (L9 : Nat) (xs9 : Nat → Int32) (k23 : Nat → Nat → Nat → Int32 → hb_M → Option (Int32 × hb_M)) (x1 : Nat) (x2 : Nat) (x3 : Nat) (x4 : Int32) (σ : hb_M) : Option (Int32 × hb_M) :=
  if (x4 + (1 : Int32)) < 0 ∨ L9 ≤ (x4 + (1 : Int32)).toNatClampNeg then none else
  (f_L_componentSize x1 (xs9 (x4 + (1 : Int32)).toNatClampNeg) x3 σ).bind fun r2 =>
  if (x4 + (1 : Int32)) < 0 ∨ L9 ≤ (x4 + (1 : Int32)).toNatClampNeg then none else
  (hb_on r2.2 x2 9 (f_X9_componentSize x2 (xs9 (x4 + (1 : Int32)).toNatClampNeg) r2.2)).bind fun r4 =>
  (hb_on r4.2 x2 9 (f_X9_thrown x2 r4.2)).bind fun r5 =>
  if r5.1 = r2.1 then
    if r2.1 = 0 then
      (hb_lald r5.2 x3 (0 : Int32)).bind fun r8 =>
      if (lg_cmp r8 r4.1.toInt64) = 0 then
        f_L_law_b1823 L9 xs9 k23 x1 x2 x3 x4 r5.2
      else
        some ((0 : Int32), r5.2)
    else
      f_L_law_b1823 L9 xs9 k23 x1 x2 x3 x4 r5.2
  else
    some ((0 : Int32), r5.2)
def f_L_law_b1767 (L9 : Nat) (xs9 : Nat → Int32) (k23 : Nat → Nat → Nat → Int32 → hb_M → Option (Int32 × hb_M)) (x1 : Nat) (x2 : Nat) (x3 : Nat) (x4 : Int32) (σ : hb_M) : Option (Int32 × hb_M) :=
  f_L_law_b2704 L9 xs9 k23 x1 x2 x3 x4 σ
def f_L_law_b1714 (L9 : Nat) (xs9 : Nat → Int32) (k23 : Nat → Nat → Nat → Int32 → hb_M → Option (Int32 × hb_M)) (x1 : Nat) (x2 : Nat) (x3 : Nat) (x4 : Int32) (σ : hb_M) : Option (Int32 × hb_M) :=
  if (x4 + (1 : Int32)) < 0 ∨ L9 ≤ (x4 + (1 : Int32)).toNatClampNeg then none else
  (f_L_component x1 (xs9 (x4 + (1 : Int32)).toNatClampNeg) x3 σ).bind fun r2 =>
  if (x4 + (1 : Int32)) < 0 ∨ L9 ≤ (x4 + (1 : Int32)).toNatClampNeg then none else
  (hb_on r2.2 x2 9 (f_X9_component x2 (xs9 (x4 + (1 : Int32)).toNatClampNeg) r2.2)).bind fun r4 =>
  (hb_on r4.2 x2 9 (f_X9_thrown x2 r4.2)).bind fun r5 =>
  if r5.1 = r2.1 then
    if r2.1 = 0 then
      (hb_lald r5.2 x3 (0 : Int32)).bind fun r8 =>
      if (lg_cmp r8 r4.1.toInt64) = 0 then
        f_L_law_b1767 L9 xs9 k23 x1 x2 x3 x4 r5.2
      else
        some ((0 : Int32), r5.2)
    else
      f_L_law_b1767 L9 xs9 k23 x1 x2 x3 x4 r5.2
  else
    some ((0 : Int32), r5.2)
def f_L_law_b1711 (L9 : Nat) (xs9 : Nat → Int32) (k23 : Nat → Nat → Nat → Int32 → hb_M → Option (Int32 × hb_M)) (x1 : Nat) (x2 : Nat) (x3 : Nat) (x4 : Int32) (σ : hb_M) : Option (Int32 × hb_M) :=
  f_L_law_b2704 L9 xs9 k23 x1 x2 x3 x4 σ
def f_L_law_b1658 (L9 : Nat) (xs9 : Nat → Int32) (k23 : Nat → Nat → Nat → Int32 → hb_M → Option (Int32 × hb_M)) (x1 : Nat) (x2 : Nat) (x3 : Nat) (x4 : Int32) (σ : hb_M) : Option (Int32 × hb_M) :=
  if (x4 + (1 : Int32)) < 0 ∨ L9 ≤ (x4 + (1 : Int32)).toNatClampNeg then none else
  (f_L_retainedObjects x1 (xs9 (x4 + (1 : Int32)).toNatClampNeg) x3 σ).bind fun r2 =>
  if (x4 + (1 : Int32)) < 0 ∨ L9 ≤ (x4 + (1 : Int32)).toNatClampNeg then none else
  (hb_on r2.2 x2 9 (f_X9_retainedObjects x2 (xs9 (x4 + (1 : Int32)).toNatClampNeg) r2.2)).bind fun r4 =>
  (hb_on r4.2 x2 9 (f_X9_thrown x2 r4.2)).bind fun r5 =>
  if r5.1 = r2.1 then
    if r2.1 = 0 then
      (hb_lald r5.2 x3 (0 : Int32)).bind fun r8 =>
      if (lg_cmp r8 r4.1.toInt64) = 0 then
        f_L_law_b1711 L9 xs9 k23 x1 x2 x3 x4 r5.2
      else
        some ((0 : Int32), r5.2)
    else
      f_L_law_b1711 L9 xs9 k23 x1 x2 x3 x4 r5.2
  else
    some ((0 : Int32), r5.2)
def f_L_law_b1655 (L9 : Nat) (xs9 : Nat → Int32) (k23 : Nat → Nat → Nat → Int32 → hb_M → Option (Int32 × hb_M)) (x1 : Nat) (x2 : Nat) (x3 : Nat) (x4 : Int32) (σ : hb_M) : Option (Int32 × hb_M) :=
  f_L_law_b2704 L9 xs9 k23 x1 x2 x3 x4 σ
def f_L_law_b1602 (L9 : Nat) (xs9 : Nat → Int32) (k23 : Nat → Nat → Nat → Int32 → hb_M → Option (Int32 × hb_M)) (x1 : Nat) (x2 : Nat) (x3 : Nat) (x4 : Int32) (σ : hb_M) : Option (Int32 × hb_M) :=
  if (x4 + (1 : Int32)) < 0 ∨ L9 ≤ (x4 + (1 : Int32)).toNatClampNeg then none else
  (f_L_retainedSize x1 (xs9 (x4 + (1 : Int32)).toNatClampNeg) x3 σ).bind fun r2 =>
  if (x4 + (1 : Int32)) < 0 ∨ L9 ≤ (x4 + (1 : Int32)).toNatClampNeg then none else
  (hb_on r2.2 x2 9 (f_X9_retainedSize x2 (xs9 (x4 + (1 : Int32)).toNatClampNeg) r2.2)).bind fun r4 =>
  (hb_on r4.2 x2 9 (f_X9_thrown x2 r4.2)).bind fun r5 =>
  if r5.1 = r2.1 then
    if r2.1 = 0 then
      (hb_lald r5.2 x3 (0 : Int32)).bind fun r8 =>
      if (lg_cmp r8 r4.1.toInt64) = 0 then
        f_L_law_b1655 L9 xs9 k23 x1 x2 x3 x4 r5.2
      else
        some ((0 : Int32), r5.2)
    else
      f_L_law_b1655 L9 xs9 k23 x1 x2 x3 x4 r5.2
  else
    some ((0 : Int32), r5.2)
def f_L_law_b1599 (L9 : Nat) (xs9 : Nat → Int32) (k23 : Nat → Nat → Nat → Int32 → hb_M → Option (Int32 × hb_M)) (x1 : Nat) (x2 : Nat) (x3 : Nat) (x4 : Int32) (σ : hb_M) : Option (Int32 × hb_M) :=
  f_L_law_b2704 L9 xs9 k23 x1 x2 x3 x4 σ
def f_L_law_b1534 (L9 : Nat) (xs9 : Nat → Int32) (k23 : Nat → Nat → Nat → Int32 → hb_M → Option (Int32 × hb_M)) (x1 : Nat) (x2 : Nat) (x3 : Nat) (x4 : Int32) (σ : hb_M) : Option (Int32 × hb_M) :=
  if (x4 + (1 : Int32)) < 0 ∨ L9 ≤ (x4 + (1 : Int32)).toNatClampNeg then none else
  if (x4 + (2 : Int32)) < 0 ∨ L9 ≤ (x4 + (2 : Int32)).toNatClampNeg then none else
  (f_L_dominatedAt x1 (xs9 (x4 + (1 : Int32)).toNatClampNeg) (xs9 (x4 + (2 : Int32)).toNatClampNeg) x3 σ).bind fun r3 =>
  if (x4 + (1 : Int32)) < 0 ∨ L9 ≤ (x4 + (1 : Int32)).toNatClampNeg then none else
  if (x4 + (2 : Int32)) < 0 ∨ L9 ≤ (x4 + (2 : Int32)).toNatClampNeg then none else
  (hb_on r3.2 x2 9 (f_X9_dominatedAt x2 (xs9 (x4 + (1 : Int32)).toNatClampNeg) (xs9 (x4 + (2 : Int32)).toNatClampNeg) r3.2)).bind fun r6 =>
  (hb_on r6.2 x2 9 (f_X9_thrown x2 r6.2)).bind fun r7 =>
  if r7.1 = r3.1 then
    if r3.1 = 0 then
      (hb_lald r7.2 x3 (0 : Int32)).bind fun r10 =>
      if (lg_cmp r10 r6.1.toInt64) = 0 then
        f_L_law_b1599 L9 xs9 k23 x1 x2 x3 x4 r7.2
      else
        some ((0 : Int32), r7.2)
    else
      f_L_law_b1599 L9 xs9 k23 x1 x2 x3 x4 r7.2
  else
    some ((0 : Int32), r7.2)
def f_L_law_b1531 (L9 : Nat) (xs9 : Nat → Int32) (k23 : Nat → Nat → Nat → Int32 → hb_M → Option (Int32 × hb_M)) (x1 : Nat) (x2 : Nat) (x3 : Nat) (x4 : Int32) (σ : hb_M) : Option (Int32 × hb_M) :=
  f_L_law_b2704 L9 xs9 k23 x1 x2 x3 x4 σ
def f_L_law_b1478 (L9 : Nat) (xs9 : Nat → Int32) (k23 : Nat → Nat → Nat → Int32 → hb_M → Option (Int32 × hb_M)) (x1 : Nat) (x2 : Nat) (x3 : Nat) (x4 : Int32) (σ : hb_M) : Option (Int32 × hb_M) :=
  if (x4 + (1 : Int32)) < 0 ∨ L9 ≤ (x4 + (1 : Int32)).toNatClampNeg then none else
  (f_L_depth x1 (xs9 (x4 + (1 : Int32)).toNatClampNeg) x3 σ).bind fun r2 =>
  if (x4 + (1 : Int32)) < 0 ∨ L9 ≤ (x4 + (1 : Int32)).toNatClampNeg then none else
  (hb_on r2.2 x2 9 (f_X9_depth x2 (xs9 (x4 + (1 : Int32)).toNatClampNeg) r2.2)).bind fun r4 =>
  (hb_on r4.2 x2 9 (f_X9_thrown x2 r4.2)).bind fun r5 =>
  if r5.1 = r2.1 then
    if r2.1 = 0 then
      (hb_lald r5.2 x3 (0 : Int32)).bind fun r8 =>
      if (lg_cmp r8 r4.1.toInt64) = 0 then
        f_L_law_b1531 L9 xs9 k23 x1 x2 x3 x4 r5.2
      else
        some ((0 : Int32), r5.2)
    else
      f_L_law_b1531 L9 xs9 k23 x1 x2 x3 x4 r5.2
  else
    some ((0 : Int32), r5.2)
def f_L_law_b1475 (L9 : Nat) (xs9 : Nat → Int32) (k23 : Nat → Nat → Nat → Int32 → hb_M → Option (Int32 × hb_M)) (x1 : Nat) (x2 : Nat) (x3 : Nat) (x4 : Int32) (σ : hb_M) : Option (Int32 × hb_M) :=
  f_L_law_b2704 L9 xs9 k23 x1 x2 x3 x4 σ
def f_L_law_b1422 (L9 : Nat) (xs9 : Nat → Int32) (k23 : Nat → Nat → Nat → Int32 → hb_M → Option (Int32 × hb_M)) (x1 : Nat) (x2 : Nat) (x3 : Nat) (x4 : Int32) (σ : hb_M) : Option (Int32 × hb_M) :=
  if (x4 + (1 : Int32)) < 0 ∨ L9 ≤ (x4 + (1 : Int32)).toNatClampNeg then none else
  (f_L_dominator x1 (xs9 (x4 + (1 : Int32)).toNatClampNeg) x3 σ).bind fun r2 =>
  if (x4 + (1 : Int32)) < 0 ∨ L9 ≤ (x4 + (1 : Int32)).toNatClampNeg then none else
  (hb_on r2.2 x2 9 (f_X9_dominator x2 (xs9 (x4 + (1 : Int32)).toNatClampNeg) r2.2)).bind fun r4 =>
  (hb_on r4.2 x2 9 (f_X9_thrown x2 r4.2)).bind fun r5 =>
  if r5.1 = r2.1 then
    if r2.1 = 0 then
      (hb_lald r5.2 x3 (0 : Int32)).bind fun r8 =>
      if (lg_cmp r8 r4.1.toInt64) = 0 then
        f_L_law_b1475 L9 xs9 k23 x1 x2 x3 x4 r5.2
      else
        some ((0 : Int32), r5.2)
    else
      f_L_law_b1475 L9 xs9 k23 x1 x2 x3 x4 r5.2
  else
    some ((0 : Int32), r5.2)
def f_L_law_b1419 (L9 : Nat) (xs9 : Nat → Int32) (k23 : Nat → Nat → Nat → Int32 → hb_M → Option (Int32 × hb_M)) (x1 : Nat) (x2 : Nat) (x3 : Nat) (x4 : Int32) (σ : hb_M) : Option (Int32 × hb_M) :=
  f_L_law_b2704 L9 xs9 k23 x1 x2 x3 x4 σ
def f_L_law_b1413 (L9 : Nat) (xs9 : Nat → Int32) (k23 : Nat → Nat → Nat → Int32 → hb_M → Option (Int32 × hb_M)) (x1 : Nat) (x2 : Nat) (x3 : Nat) (x4 : Int32) (s0 : Int64) (s1 : Int64) (σ : hb_M) : Option (Int32 × hb_M) :=
  if (lg_cmp s0 s1) = 0 then
    f_L_law_b1419 L9 xs9 k23 x1 x2 x3 x4 σ
  else
    some ((0 : Int32), σ)
def f_L_law_b1347 (L9 : Nat) (xs9 : Nat → Int32) (k23 : Nat → Nat → Nat → Int32 → hb_M → Option (Int32 × hb_M)) (x1 : Nat) (x2 : Nat) (x3 : Nat) (x4 : Int32) (σ : hb_M) : Option (Int32 × hb_M) :=
  if (x4 + (1 : Int32)) < 0 ∨ L9 ≤ (x4 + (1 : Int32)).toNatClampNeg then none else
  if (x4 + (2 : Int32)) < 0 ∨ L9 ≤ (x4 + (2 : Int32)).toNatClampNeg then none else
  (f_L_dominates x1 (xs9 (x4 + (1 : Int32)).toNatClampNeg) (xs9 (x4 + (2 : Int32)).toNatClampNeg) x3 σ).bind fun r3 =>
  if (x4 + (1 : Int32)) < 0 ∨ L9 ≤ (x4 + (1 : Int32)).toNatClampNeg then none else
  if (x4 + (2 : Int32)) < 0 ∨ L9 ≤ (x4 + (2 : Int32)).toNatClampNeg then none else
  (hb_on r3.2 x2 9 (f_X9_dominates x2 (xs9 (x4 + (1 : Int32)).toNatClampNeg) (xs9 (x4 + (2 : Int32)).toNatClampNeg) r3.2)).bind fun r6 =>
  (hb_on r6.2 x2 9 (f_X9_thrown x2 r6.2)).bind fun r7 =>
  if r7.1 = r3.1 then
    if r3.1 = 0 then
      (hb_lald r7.2 x3 (0 : Int32)).bind fun r10 =>
      if r6.1 = 0 then
        f_L_law_b1413 L9 xs9 k23 x1 x2 x3 x4 r10 (0 : Int64) r7.2
      else
        f_L_law_b1413 L9 xs9 k23 x1 x2 x3 x4 r10 (1 : Int64) r7.2
    else
      f_L_law_b1419 L9 xs9 k23 x1 x2 x3 x4 r7.2
  else
    some ((0 : Int32), r7.2)
def f_L_law_b1344 (L9 : Nat) (xs9 : Nat → Int32) (k23 : Nat → Nat → Nat → Int32 → hb_M → Option (Int32 × hb_M)) (x1 : Nat) (x2 : Nat) (x3 : Nat) (x4 : Int32) (σ : hb_M) : Option (Int32 × hb_M) :=
  f_L_law_b2704 L9 xs9 k23 x1 x2 x3 x4 σ
def f_L_law_b1279 (L9 : Nat) (xs9 : Nat → Int32) (k23 : Nat → Nat → Nat → Int32 → hb_M → Option (Int32 × hb_M)) (x1 : Nat) (x2 : Nat) (x3 : Nat) (x4 : Int32) (σ : hb_M) : Option (Int32 × hb_M) :=
  if (x4 + (1 : Int32)) < 0 ∨ L9 ≤ (x4 + (1 : Int32)).toNatClampNeg then none else
  if (x4 + (2 : Int32)) < 0 ∨ L9 ≤ (x4 + (2 : Int32)).toNatClampNeg then none else
  (f_L_pathAt x1 (xs9 (x4 + (1 : Int32)).toNatClampNeg) (xs9 (x4 + (2 : Int32)).toNatClampNeg) x3 σ).bind fun r3 =>
  if (x4 + (1 : Int32)) < 0 ∨ L9 ≤ (x4 + (1 : Int32)).toNatClampNeg then none else
  if (x4 + (2 : Int32)) < 0 ∨ L9 ≤ (x4 + (2 : Int32)).toNatClampNeg then none else
  (hb_on r3.2 x2 9 (f_X9_pathAt x2 (xs9 (x4 + (1 : Int32)).toNatClampNeg) (xs9 (x4 + (2 : Int32)).toNatClampNeg) r3.2)).bind fun r6 =>
  (hb_on r6.2 x2 9 (f_X9_thrown x2 r6.2)).bind fun r7 =>
  if r7.1 = r3.1 then
    if r3.1 = 0 then
      (hb_lald r7.2 x3 (0 : Int32)).bind fun r10 =>
      if (lg_cmp r10 r6.1.toInt64) = 0 then
        f_L_law_b1344 L9 xs9 k23 x1 x2 x3 x4 r7.2
      else
        some ((0 : Int32), r7.2)
    else
      f_L_law_b1344 L9 xs9 k23 x1 x2 x3 x4 r7.2
  else
    some ((0 : Int32), r7.2)
def f_L_law_b1276 (L9 : Nat) (xs9 : Nat → Int32) (k23 : Nat → Nat → Nat → Int32 → hb_M → Option (Int32 × hb_M)) (x1 : Nat) (x2 : Nat) (x3 : Nat) (x4 : Int32) (σ : hb_M) : Option (Int32 × hb_M) :=
  f_L_law_b2704 L9 xs9 k23 x1 x2 x3 x4 σ
def f_L_law_b1223 (L9 : Nat) (xs9 : Nat → Int32) (k23 : Nat → Nat → Nat → Int32 → hb_M → Option (Int32 × hb_M)) (x1 : Nat) (x2 : Nat) (x3 : Nat) (x4 : Int32) (σ : hb_M) : Option (Int32 × hb_M) :=
  if (x4 + (1 : Int32)) < 0 ∨ L9 ≤ (x4 + (1 : Int32)).toNatClampNeg then none else
  (f_L_distance x1 (xs9 (x4 + (1 : Int32)).toNatClampNeg) x3 σ).bind fun r2 =>
  if (x4 + (1 : Int32)) < 0 ∨ L9 ≤ (x4 + (1 : Int32)).toNatClampNeg then none else
  (hb_on r2.2 x2 9 (f_X9_distance x2 (xs9 (x4 + (1 : Int32)).toNatClampNeg) r2.2)).bind fun r4 =>
  (hb_on r4.2 x2 9 (f_X9_thrown x2 r4.2)).bind fun r5 =>
  if r5.1 = r2.1 then
    if r2.1 = 0 then
      (hb_lald r5.2 x3 (0 : Int32)).bind fun r8 =>
      if (lg_cmp r8 r4.1.toInt64) = 0 then
        f_L_law_b1276 L9 xs9 k23 x1 x2 x3 x4 r5.2
      else
        some ((0 : Int32), r5.2)
    else
      f_L_law_b1276 L9 xs9 k23 x1 x2 x3 x4 r5.2
  else
    some ((0 : Int32), r5.2)
def f_L_law_b1220 (L9 : Nat) (xs9 : Nat → Int32) (k23 : Nat → Nat → Nat → Int32 → hb_M → Option (Int32 × hb_M)) (x1 : Nat) (x2 : Nat) (x3 : Nat) (x4 : Int32) (σ : hb_M) : Option (Int32 × hb_M) :=
  f_L_law_b2704 L9 xs9 k23 x1 x2 x3 x4 σ
def f_L_law_b1155 (L9 : Nat) (xs9 : Nat → Int32) (k23 : Nat → Nat → Nat → Int32 → hb_M → Option (Int32 × hb_M)) (x1 : Nat) (x2 : Nat) (x3 : Nat) (x4 : Int32) (σ : hb_M) : Option (Int32 × hb_M) :=
  if (x4 + (1 : Int32)) < 0 ∨ L9 ≤ (x4 + (1 : Int32)).toNatClampNeg then none else
  if (x4 + (2 : Int32)) < 0 ∨ L9 ≤ (x4 + (2 : Int32)).toNatClampNeg then none else
  (f_L_populate x1 (xs9 (x4 + (1 : Int32)).toNatClampNeg) (xs9 (x4 + (2 : Int32)).toNatClampNeg) x3 σ).bind fun r3 =>
  if (x4 + (1 : Int32)) < 0 ∨ L9 ≤ (x4 + (1 : Int32)).toNatClampNeg then none else
  if (x4 + (2 : Int32)) < 0 ∨ L9 ≤ (x4 + (2 : Int32)).toNatClampNeg then none else
  (hb_on r3.2 x2 9 (f_X9_populate x2 (xs9 (x4 + (1 : Int32)).toNatClampNeg) (xs9 (x4 + (2 : Int32)).toNatClampNeg) r3.2)).bind fun r6 =>
  (hb_on r6.2 x2 9 (f_X9_thrown x2 r6.2)).bind fun r7 =>
  if r7.1 = r3.1 then
    if r3.1 = 0 then
      (hb_lald r7.2 x3 (0 : Int32)).bind fun r10 =>
      if (lg_cmp r10 r6.1.toInt64) = 0 then
        f_L_law_b1220 L9 xs9 k23 x1 x2 x3 x4 r7.2
      else
        some ((0 : Int32), r7.2)
    else
      f_L_law_b1220 L9 xs9 k23 x1 x2 x3 x4 r7.2
  else
    some ((0 : Int32), r7.2)
def f_L_law_b1152 (L9 : Nat) (xs9 : Nat → Int32) (k23 : Nat → Nat → Nat → Int32 → hb_M → Option (Int32 × hb_M)) (x1 : Nat) (x2 : Nat) (x3 : Nat) (x4 : Int32) (σ : hb_M) : Option (Int32 × hb_M) :=
  f_L_law_b2704 L9 xs9 k23 x1 x2 x3 x4 σ
def f_L_law_b1087 (L9 : Nat) (xs9 : Nat → Int32) (k23 : Nat → Nat → Nat → Int32 → hb_M → Option (Int32 × hb_M)) (x1 : Nat) (x2 : Nat) (x3 : Nat) (x4 : Int32) (σ : hb_M) : Option (Int32 × hb_M) :=
  if (x4 + (1 : Int32)) < 0 ∨ L9 ≤ (x4 + (1 : Int32)).toNatClampNeg then none else
  if (x4 + (2 : Int32)) < 0 ∨ L9 ≤ (x4 + (2 : Int32)).toNatClampNeg then none else
  (f_L_objectInfo x1 (xs9 (x4 + (1 : Int32)).toNatClampNeg) (xs9 (x4 + (2 : Int32)).toNatClampNeg) x3 σ).bind fun r3 =>
  if (x4 + (1 : Int32)) < 0 ∨ L9 ≤ (x4 + (1 : Int32)).toNatClampNeg then none else
  if (x4 + (2 : Int32)) < 0 ∨ L9 ≤ (x4 + (2 : Int32)).toNatClampNeg then none else
  (hb_on r3.2 x2 9 (f_X9_objectInfo x2 (xs9 (x4 + (1 : Int32)).toNatClampNeg) (xs9 (x4 + (2 : Int32)).toNatClampNeg) r3.2)).bind fun r6 =>
  (hb_on r6.2 x2 9 (f_X9_thrown x2 r6.2)).bind fun r7 =>
  if r7.1 = r3.1 then
    if r3.1 = 0 then
      (hb_lald r7.2 x3 (0 : Int32)).bind fun r10 =>
      if (lg_cmp r10 r6.1.toInt64) = 0 then
        f_L_law_b1152 L9 xs9 k23 x1 x2 x3 x4 r7.2
      else
        some ((0 : Int32), r7.2)
    else
      f_L_law_b1152 L9 xs9 k23 x1 x2 x3 x4 r7.2
  else
    some ((0 : Int32), r7.2)
def f_L_law_b1062 (L9 : Nat) (xs9 : Nat → Int32) (k23 : Nat → Nat → Nat → Int32 → hb_M → Option (Int32 × hb_M)) (x1 : Nat) (x2 : Nat) (x3 : Nat) (x4 : Int32) (σ : hb_M) : Option (Int32 × hb_M) :=
  if (x4 + (1 : Int32)) < 0 ∨ L9 ≤ (x4 + (1 : Int32)).toNatClampNeg then none else
  (hb_on σ x1 8 (f_X8_exists x1 (xs9 (x4 + (1 : Int32)).toNatClampNeg) σ)).bind fun r2 =>
  if (x4 + (1 : Int32)) < 0 ∨ L9 ≤ (x4 + (1 : Int32)).toNatClampNeg then none else
  (hb_on r2.2 x2 9 (f_X9_exists x2 (xs9 (x4 + (1 : Int32)).toNatClampNeg) r2.2)).bind fun r4 =>
  if r2.1 = r4.1 then
    f_L_law_b2704 L9 xs9 k23 x1 x2 x3 x4 r4.2
  else
    some ((0 : Int32), r4.2)
def f_L_law_b1049 (L9 : Nat) (xs9 : Nat → Int32) (k23 : Nat → Nat → Nat → Int32 → hb_M → Option (Int32 × hb_M)) (x1 : Nat) (x2 : Nat) (x3 : Nat) (x4 : Int32) (σ : hb_M) : Option (Int32 × hb_M) :=
  (hb_on σ x1 8 (f_X8_objects x1 σ)).bind fun r1 =>
  (hb_on r1.2 x2 9 (f_X9_objects x2 r1.2)).bind fun r2 =>
  if r1.1 = r2.1 then
    f_L_law_b2704 L9 xs9 k23 x1 x2 x3 x4 r2.2
  else
    some ((0 : Int32), r2.2)
def f_L_law_b1036 (L9 : Nat) (xs9 : Nat → Int32) (k23 : Nat → Nat → Nat → Int32 → hb_M → Option (Int32 × hb_M)) (x1 : Nat) (x2 : Nat) (x3 : Nat) (x4 : Int32) (σ : hb_M) : Option (Int32 × hb_M) :=
  (hb_on σ x1 8 (f_X8_collect x1 σ)).bind fun r1 =>
  (hb_on r1.2 x2 9 (f_X9_collect x2 r1.2)).bind fun r2 =>
  if r1.1 = r2.1 then
    f_L_law_b2704 L9 xs9 k23 x1 x2 x3 x4 r2.2
  else
    some ((0 : Int32), r2.2)
def f_L_law_b1033 (L9 : Nat) (xs9 : Nat → Int32) (k23 : Nat → Nat → Nat → Int32 → hb_M → Option (Int32 × hb_M)) (x1 : Nat) (x2 : Nat) (x3 : Nat) (x4 : Int32) (σ : hb_M) : Option (Int32 × hb_M) :=
  f_L_law_b2704 L9 xs9 k23 x1 x2 x3 x4 σ
def f_L_law_b968 (L9 : Nat) (xs9 : Nat → Int32) (k23 : Nat → Nat → Nat → Int32 → hb_M → Option (Int32 × hb_M)) (x1 : Nat) (x2 : Nat) (x3 : Nat) (x4 : Int32) (σ : hb_M) : Option (Int32 × hb_M) :=
  if (x4 + (1 : Int32)) < 0 ∨ L9 ≤ (x4 + (1 : Int32)).toNatClampNeg then none else
  if (x4 + (2 : Int32)) < 0 ∨ L9 ≤ (x4 + (2 : Int32)).toNatClampNeg then none else
  (f_L_removeRoot x1 (xs9 (x4 + (1 : Int32)).toNatClampNeg) (xs9 (x4 + (2 : Int32)).toNatClampNeg) x3 σ).bind fun r3 =>
  if (x4 + (1 : Int32)) < 0 ∨ L9 ≤ (x4 + (1 : Int32)).toNatClampNeg then none else
  if (x4 + (2 : Int32)) < 0 ∨ L9 ≤ (x4 + (2 : Int32)).toNatClampNeg then none else
  (hb_on r3.2 x2 9 (f_X9_removeRoot x2 (xs9 (x4 + (1 : Int32)).toNatClampNeg) (xs9 (x4 + (2 : Int32)).toNatClampNeg) r3.2)).bind fun r6 =>
  (hb_on r6.2 x2 9 (f_X9_thrown x2 r6.2)).bind fun r7 =>
  if r7.1 = r3.1 then
    if r3.1 = 0 then
      (hb_lald r7.2 x3 (0 : Int32)).bind fun r10 =>
      if (lg_cmp r10 r6.1.toInt64) = 0 then
        f_L_law_b1033 L9 xs9 k23 x1 x2 x3 x4 r7.2
      else
        some ((0 : Int32), r7.2)
    else
      f_L_law_b1033 L9 xs9 k23 x1 x2 x3 x4 r7.2
  else
    some ((0 : Int32), r7.2)
def f_L_law_b965 (L9 : Nat) (xs9 : Nat → Int32) (k23 : Nat → Nat → Nat → Int32 → hb_M → Option (Int32 × hb_M)) (x1 : Nat) (x2 : Nat) (x3 : Nat) (x4 : Int32) (σ : hb_M) : Option (Int32 × hb_M) :=
  f_L_law_b2704 L9 xs9 k23 x1 x2 x3 x4 σ
def f_L_law_b900 (L9 : Nat) (xs9 : Nat → Int32) (k23 : Nat → Nat → Nat → Int32 → hb_M → Option (Int32 × hb_M)) (x1 : Nat) (x2 : Nat) (x3 : Nat) (x4 : Int32) (σ : hb_M) : Option (Int32 × hb_M) :=
  if (x4 + (1 : Int32)) < 0 ∨ L9 ≤ (x4 + (1 : Int32)).toNatClampNeg then none else
  if (x4 + (2 : Int32)) < 0 ∨ L9 ≤ (x4 + (2 : Int32)).toNatClampNeg then none else
  (f_L_addRoot x1 (xs9 (x4 + (1 : Int32)).toNatClampNeg) (xs9 (x4 + (2 : Int32)).toNatClampNeg) x3 σ).bind fun r3 =>
  if (x4 + (1 : Int32)) < 0 ∨ L9 ≤ (x4 + (1 : Int32)).toNatClampNeg then none else
  if (x4 + (2 : Int32)) < 0 ∨ L9 ≤ (x4 + (2 : Int32)).toNatClampNeg then none else
  (hb_on r3.2 x2 9 (f_X9_addRoot x2 (xs9 (x4 + (1 : Int32)).toNatClampNeg) (xs9 (x4 + (2 : Int32)).toNatClampNeg) r3.2)).bind fun r6 =>
  (hb_on r6.2 x2 9 (f_X9_thrown x2 r6.2)).bind fun r7 =>
  if r7.1 = r3.1 then
    if r3.1 = 0 then
      (hb_lald r7.2 x3 (0 : Int32)).bind fun r10 =>
      if (lg_cmp r10 r6.1.toInt64) = 0 then
        f_L_law_b965 L9 xs9 k23 x1 x2 x3 x4 r7.2
      else
        some ((0 : Int32), r7.2)
    else
      f_L_law_b965 L9 xs9 k23 x1 x2 x3 x4 r7.2
  else
    some ((0 : Int32), r7.2)
def f_L_law_b897 (L9 : Nat) (xs9 : Nat → Int32) (k23 : Nat → Nat → Nat → Int32 → hb_M → Option (Int32 × hb_M)) (x1 : Nat) (x2 : Nat) (x3 : Nat) (x4 : Int32) (σ : hb_M) : Option (Int32 × hb_M) :=
  f_L_law_b2704 L9 xs9 k23 x1 x2 x3 x4 σ
def f_L_law_b844 (L9 : Nat) (xs9 : Nat → Int32) (k23 : Nat → Nat → Nat → Int32 → hb_M → Option (Int32 × hb_M)) (x1 : Nat) (x2 : Nat) (x3 : Nat) (x4 : Int32) (σ : hb_M) : Option (Int32 × hb_M) :=
  if (x4 + (1 : Int32)) < 0 ∨ L9 ≤ (x4 + (1 : Int32)).toNatClampNeg then none else
  (f_L_referent x1 (xs9 (x4 + (1 : Int32)).toNatClampNeg) x3 σ).bind fun r2 =>
  if (x4 + (1 : Int32)) < 0 ∨ L9 ≤ (x4 + (1 : Int32)).toNatClampNeg then none else
  (hb_on r2.2 x2 9 (f_X9_referent x2 (xs9 (x4 + (1 : Int32)).toNatClampNeg) r2.2)).bind fun r4 =>
  (hb_on r4.2 x2 9 (f_X9_thrown x2 r4.2)).bind fun r5 =>
  if r5.1 = r2.1 then
    if r2.1 = 0 then
      (hb_lald r5.2 x3 (0 : Int32)).bind fun r8 =>
      if (lg_cmp r8 r4.1.toInt64) = 0 then
        f_L_law_b897 L9 xs9 k23 x1 x2 x3 x4 r5.2
      else
        some ((0 : Int32), r5.2)
    else
      f_L_law_b897 L9 xs9 k23 x1 x2 x3 x4 r5.2
  else
    some ((0 : Int32), r5.2)
def f_L_law_b841 (L9 : Nat) (xs9 : Nat → Int32) (k23 : Nat → Nat → Nat → Int32 → hb_M → Option (Int32 × hb_M)) (x1 : Nat) (x2 : Nat) (x3 : Nat) (x4 : Int32) (σ : hb_M) : Option (Int32 × hb_M) :=
  f_L_law_b2704 L9 xs9 k23 x1 x2 x3 x4 σ
def f_L_law_b776 (L9 : Nat) (xs9 : Nat → Int32) (k23 : Nat → Nat → Nat → Int32 → hb_M → Option (Int32 × hb_M)) (x1 : Nat) (x2 : Nat) (x3 : Nat) (x4 : Int32) (σ : hb_M) : Option (Int32 × hb_M) :=
  if (x4 + (1 : Int32)) < 0 ∨ L9 ≤ (x4 + (1 : Int32)).toNatClampNeg then none else
  if (x4 + (2 : Int32)) < 0 ∨ L9 ≤ (x4 + (2 : Int32)).toNatClampNeg then none else
  (f_L_resizeArray x1 (xs9 (x4 + (1 : Int32)).toNatClampNeg) (xs9 (x4 + (2 : Int32)).toNatClampNeg) x3 σ).bind fun r3 =>
  if (x4 + (1 : Int32)) < 0 ∨ L9 ≤ (x4 + (1 : Int32)).toNatClampNeg then none else
  if (x4 + (2 : Int32)) < 0 ∨ L9 ≤ (x4 + (2 : Int32)).toNatClampNeg then none else
  (hb_on r3.2 x2 9 (f_X9_resizeArray x2 (xs9 (x4 + (1 : Int32)).toNatClampNeg) (xs9 (x4 + (2 : Int32)).toNatClampNeg) r3.2)).bind fun r6 =>
  (hb_on r6.2 x2 9 (f_X9_thrown x2 r6.2)).bind fun r7 =>
  if r7.1 = r3.1 then
    if r3.1 = 0 then
      (hb_lald r7.2 x3 (0 : Int32)).bind fun r10 =>
      if (lg_cmp r10 r6.1.toInt64) = 0 then
        f_L_law_b841 L9 xs9 k23 x1 x2 x3 x4 r7.2
      else
        some ((0 : Int32), r7.2)
    else
      f_L_law_b841 L9 xs9 k23 x1 x2 x3 x4 r7.2
  else
    some ((0 : Int32), r7.2)
def f_L_law_b773 (L9 : Nat) (xs9 : Nat → Int32) (k23 : Nat → Nat → Nat → Int32 → hb_M → Option (Int32 × hb_M)) (x1 : Nat) (x2 : Nat) (x3 : Nat) (x4 : Int32) (σ : hb_M) : Option (Int32 × hb_M) :=
  f_L_law_b2704 L9 xs9 k23 x1 x2 x3 x4 σ
def f_L_law_b708 (L9 : Nat) (xs9 : Nat → Int32) (k23 : Nat → Nat → Nat → Int32 → hb_M → Option (Int32 × hb_M)) (x1 : Nat) (x2 : Nat) (x3 : Nat) (x4 : Int32) (σ : hb_M) : Option (Int32 × hb_M) :=
  if (x4 + (1 : Int32)) < 0 ∨ L9 ≤ (x4 + (1 : Int32)).toNatClampNeg then none else
  if (x4 + (2 : Int32)) < 0 ∨ L9 ≤ (x4 + (2 : Int32)).toNatClampNeg then none else
  (f_L_get x1 (xs9 (x4 + (1 : Int32)).toNatClampNeg) (xs9 (x4 + (2 : Int32)).toNatClampNeg) x3 σ).bind fun r3 =>
  if (x4 + (1 : Int32)) < 0 ∨ L9 ≤ (x4 + (1 : Int32)).toNatClampNeg then none else
  if (x4 + (2 : Int32)) < 0 ∨ L9 ≤ (x4 + (2 : Int32)).toNatClampNeg then none else
  (hb_on r3.2 x2 9 (f_X9_get x2 (xs9 (x4 + (1 : Int32)).toNatClampNeg) (xs9 (x4 + (2 : Int32)).toNatClampNeg) r3.2)).bind fun r6 =>
  (hb_on r6.2 x2 9 (f_X9_thrown x2 r6.2)).bind fun r7 =>
  if r7.1 = r3.1 then
    if r3.1 = 0 then
      (hb_lald r7.2 x3 (0 : Int32)).bind fun r10 =>
      if (lg_cmp r10 r6.1.toInt64) = 0 then
        f_L_law_b773 L9 xs9 k23 x1 x2 x3 x4 r7.2
      else
        some ((0 : Int32), r7.2)
    else
      f_L_law_b773 L9 xs9 k23 x1 x2 x3 x4 r7.2
  else
    some ((0 : Int32), r7.2)
def f_L_law_b705 (L9 : Nat) (xs9 : Nat → Int32) (k23 : Nat → Nat → Nat → Int32 → hb_M → Option (Int32 × hb_M)) (x1 : Nat) (x2 : Nat) (x3 : Nat) (x4 : Int32) (σ : hb_M) : Option (Int32 × hb_M) :=
  f_L_law_b2704 L9 xs9 k23 x1 x2 x3 x4 σ
def f_L_law_b628 (L9 : Nat) (xs9 : Nat → Int32) (k23 : Nat → Nat → Nat → Int32 → hb_M → Option (Int32 × hb_M)) (x1 : Nat) (x2 : Nat) (x3 : Nat) (x4 : Int32) (σ : hb_M) : Option (Int32 × hb_M) :=
  if (x4 + (1 : Int32)) < 0 ∨ L9 ≤ (x4 + (1 : Int32)).toNatClampNeg then none else
  if (x4 + (2 : Int32)) < 0 ∨ L9 ≤ (x4 + (2 : Int32)).toNatClampNeg then none else
  if (x4 + (3 : Int32)) < 0 ∨ L9 ≤ (x4 + (3 : Int32)).toNatClampNeg then none else
  (f_L_set x1 (xs9 (x4 + (1 : Int32)).toNatClampNeg) (xs9 (x4 + (2 : Int32)).toNatClampNeg) (xs9 (x4 + (3 : Int32)).toNatClampNeg) x3 σ).bind fun r4 =>
  if (x4 + (1 : Int32)) < 0 ∨ L9 ≤ (x4 + (1 : Int32)).toNatClampNeg then none else
  if (x4 + (2 : Int32)) < 0 ∨ L9 ≤ (x4 + (2 : Int32)).toNatClampNeg then none else
  if (x4 + (3 : Int32)) < 0 ∨ L9 ≤ (x4 + (3 : Int32)).toNatClampNeg then none else
  (hb_on r4.2 x2 9 (f_X9_set x2 (xs9 (x4 + (1 : Int32)).toNatClampNeg) (xs9 (x4 + (2 : Int32)).toNatClampNeg) (xs9 (x4 + (3 : Int32)).toNatClampNeg) r4.2)).bind fun r8 =>
  (hb_on r8.2 x2 9 (f_X9_thrown x2 r8.2)).bind fun r9 =>
  if r9.1 = r4.1 then
    if r4.1 = 0 then
      (hb_lald r9.2 x3 (0 : Int32)).bind fun r12 =>
      if (lg_cmp r12 r8.1.toInt64) = 0 then
        f_L_law_b705 L9 xs9 k23 x1 x2 x3 x4 r9.2
      else
        some ((0 : Int32), r9.2)
    else
      f_L_law_b705 L9 xs9 k23 x1 x2 x3 x4 r9.2
  else
    some ((0 : Int32), r9.2)
def f_L_law_b625 (L9 : Nat) (xs9 : Nat → Int32) (k23 : Nat → Nat → Nat → Int32 → hb_M → Option (Int32 × hb_M)) (x1 : Nat) (x2 : Nat) (x3 : Nat) (x4 : Int32) (σ : hb_M) : Option (Int32 × hb_M) :=
  f_L_law_b2704 L9 xs9 k23 x1 x2 x3 x4 σ
def f_L_law_b584 (L9 : Nat) (xs9 : Nat → Int32) (k23 : Nat → Nat → Nat → Int32 → hb_M → Option (Int32 × hb_M)) (x1 : Nat) (x2 : Nat) (x3 : Nat) (x4 : Int32) (σ : hb_M) : Option (Int32 × hb_M) :=
  (f_L_newHolder x1 x3 σ).bind fun r1 =>
  (hb_on r1.2 x2 9 (f_X9_newHolder x2 r1.2)).bind fun r2 =>
  (hb_on r2.2 x2 9 (f_X9_thrown x2 r2.2)).bind fun r3 =>
  if r3.1 = r1.1 then
    if r1.1 = 0 then
      (hb_lald r3.2 x3 (0 : Int32)).bind fun r6 =>
      if (lg_cmp r6 r2.1.toInt64) = 0 then
        f_L_law_b625 L9 xs9 k23 x1 x2 x3 x4 r3.2
      else
        some ((0 : Int32), r3.2)
    else
      f_L_law_b625 L9 xs9 k23 x1 x2 x3 x4 r3.2
  else
    some ((0 : Int32), r3.2)
def f_L_law_b581 (L9 : Nat) (xs9 : Nat → Int32) (k23 : Nat → Nat → Nat → Int32 → hb_M → Option (Int32 × hb_M)) (x1 : Nat) (x2 : Nat) (x3 : Nat) (x4 : Int32) (σ : hb_M) : Option (Int32 × hb_M) :=
  f_L_law_b2704 L9 xs9 k23 x1 x2 x3 x4 σ
def f_L_law_b528 (L9 : Nat) (xs9 : Nat → Int32) (k23 : Nat → Nat → Nat → Int32 → hb_M → Option (Int32 × hb_M)) (x1 : Nat) (x2 : Nat) (x3 : Nat) (x4 : Int32) (σ : hb_M) : Option (Int32 × hb_M) :=
  if (x4 + (1 : Int32)) < 0 ∨ L9 ≤ (x4 + (1 : Int32)).toNatClampNeg then none else
  (f_L_newArray x1 (xs9 (x4 + (1 : Int32)).toNatClampNeg) x3 σ).bind fun r2 =>
  if (x4 + (1 : Int32)) < 0 ∨ L9 ≤ (x4 + (1 : Int32)).toNatClampNeg then none else
  (hb_on r2.2 x2 9 (f_X9_newArray x2 (xs9 (x4 + (1 : Int32)).toNatClampNeg) r2.2)).bind fun r4 =>
  (hb_on r4.2 x2 9 (f_X9_thrown x2 r4.2)).bind fun r5 =>
  if r5.1 = r2.1 then
    if r2.1 = 0 then
      (hb_lald r5.2 x3 (0 : Int32)).bind fun r8 =>
      if (lg_cmp r8 r4.1.toInt64) = 0 then
        f_L_law_b581 L9 xs9 k23 x1 x2 x3 x4 r5.2
      else
        some ((0 : Int32), r5.2)
    else
      f_L_law_b581 L9 xs9 k23 x1 x2 x3 x4 r5.2
  else
    some ((0 : Int32), r5.2)
def f_L_law_b525 (L9 : Nat) (xs9 : Nat → Int32) (k23 : Nat → Nat → Nat → Int32 → hb_M → Option (Int32 × hb_M)) (x1 : Nat) (x2 : Nat) (x3 : Nat) (x4 : Int32) (σ : hb_M) : Option (Int32 × hb_M) :=
  f_L_law_b2704 L9 xs9 k23 x1 x2 x3 x4 σ
def f_L_law_b472 (L9 : Nat) (xs9 : Nat → Int32) (k23 : Nat → Nat → Nat → Int32 → hb_M → Option (Int32 × hb_M)) (x1 : Nat) (x2 : Nat) (x3 : Nat) (x4 : Int32) (σ : hb_M) : Option (Int32 × hb_M) :=
  if (x4 + (1 : Int32)) < 0 ∨ L9 ≤ (x4 + (1 : Int32)).toNatClampNeg then none else
  (f_L_newInstance x1 (xs9 (x4 + (1 : Int32)).toNatClampNeg) x3 σ).bind fun r2 =>
  if (x4 + (1 : Int32)) < 0 ∨ L9 ≤ (x4 + (1 : Int32)).toNatClampNeg then none else
  (hb_on r2.2 x2 9 (f_X9_newInstance x2 (xs9 (x4 + (1 : Int32)).toNatClampNeg) r2.2)).bind fun r4 =>
  (hb_on r4.2 x2 9 (f_X9_thrown x2 r4.2)).bind fun r5 =>
  if r5.1 = r2.1 then
    if r2.1 = 0 then
      (hb_lald r5.2 x3 (0 : Int32)).bind fun r8 =>
      if (lg_cmp r8 r4.1.toInt64) = 0 then
        f_L_law_b525 L9 xs9 k23 x1 x2 x3 x4 r5.2
      else
        some ((0 : Int32), r5.2)
    else
      f_L_law_b525 L9 xs9 k23 x1 x2 x3 x4 r5.2
  else
    some ((0 : Int32), r5.2)
def f_L_law_b469 (L9 : Nat) (xs9 : Nat → Int32) (k23 : Nat → Nat → Nat → Int32 → hb_M → Option (Int32 × hb_M)) (x1 : Nat) (x2 : Nat) (x3 : Nat) (x4 : Int32) (σ : hb_M) : Option (Int32 × hb_M) :=
  f_L_law_b2704 L9 xs9 k23 x1 x2 x3 x4 σ
def f_L_law_b463 (L9 : Nat) (xs9 : Nat → Int32) (k23 : Nat → Nat → Nat → Int32 → hb_M → Option (Int32 × hb_M)) (x1 : Nat) (x2 : Nat) (x3 : Nat) (x4 : Int32) (s0 : Int64) (s1 : Int64) (σ : hb_M) : Option (Int32 × hb_M) :=
  if (lg_cmp s0 s1) = 0 then
    f_L_law_b469 L9 xs9 k23 x1 x2 x3 x4 σ
  else
    some ((0 : Int32), σ)
def f_L_law_b397 (L9 : Nat) (xs9 : Nat → Int32) (k23 : Nat → Nat → Nat → Int32 → hb_M → Option (Int32 × hb_M)) (x1 : Nat) (x2 : Nat) (x3 : Nat) (x4 : Int32) (σ : hb_M) : Option (Int32 × hb_M) :=
  if (x4 + (1 : Int32)) < 0 ∨ L9 ≤ (x4 + (1 : Int32)).toNatClampNeg then none else
  if (x4 + (2 : Int32)) < 0 ∨ L9 ≤ (x4 + (2 : Int32)).toNatClampNeg then none else
  (f_L_isSubclass x1 (xs9 (x4 + (1 : Int32)).toNatClampNeg) (xs9 (x4 + (2 : Int32)).toNatClampNeg) x3 σ).bind fun r3 =>
  if (x4 + (1 : Int32)) < 0 ∨ L9 ≤ (x4 + (1 : Int32)).toNatClampNeg then none else
  if (x4 + (2 : Int32)) < 0 ∨ L9 ≤ (x4 + (2 : Int32)).toNatClampNeg then none else
  (hb_on r3.2 x2 9 (f_X9_isSubclass x2 (xs9 (x4 + (1 : Int32)).toNatClampNeg) (xs9 (x4 + (2 : Int32)).toNatClampNeg) r3.2)).bind fun r6 =>
  (hb_on r6.2 x2 9 (f_X9_thrown x2 r6.2)).bind fun r7 =>
  if r7.1 = r3.1 then
    if r3.1 = 0 then
      (hb_lald r7.2 x3 (0 : Int32)).bind fun r10 =>
      if r6.1 = 0 then
        f_L_law_b463 L9 xs9 k23 x1 x2 x3 x4 r10 (0 : Int64) r7.2
      else
        f_L_law_b463 L9 xs9 k23 x1 x2 x3 x4 r10 (1 : Int64) r7.2
    else
      f_L_law_b469 L9 xs9 k23 x1 x2 x3 x4 r7.2
  else
    some ((0 : Int32), r7.2)
def f_L_law_b394 (L9 : Nat) (xs9 : Nat → Int32) (k23 : Nat → Nat → Nat → Int32 → hb_M → Option (Int32 × hb_M)) (x1 : Nat) (x2 : Nat) (x3 : Nat) (x4 : Int32) (σ : hb_M) : Option (Int32 × hb_M) :=
  f_L_law_b2704 L9 xs9 k23 x1 x2 x3 x4 σ
def f_L_law_b329 (L9 : Nat) (xs9 : Nat → Int32) (k23 : Nat → Nat → Nat → Int32 → hb_M → Option (Int32 × hb_M)) (x1 : Nat) (x2 : Nat) (x3 : Nat) (x4 : Int32) (σ : hb_M) : Option (Int32 × hb_M) :=
  if (x4 + (1 : Int32)) < 0 ∨ L9 ≤ (x4 + (1 : Int32)).toNatClampNeg then none else
  if (x4 + (2 : Int32)) < 0 ∨ L9 ≤ (x4 + (2 : Int32)).toNatClampNeg then none else
  (f_L_classInfo x1 (xs9 (x4 + (1 : Int32)).toNatClampNeg) (xs9 (x4 + (2 : Int32)).toNatClampNeg) x3 σ).bind fun r3 =>
  if (x4 + (1 : Int32)) < 0 ∨ L9 ≤ (x4 + (1 : Int32)).toNatClampNeg then none else
  if (x4 + (2 : Int32)) < 0 ∨ L9 ≤ (x4 + (2 : Int32)).toNatClampNeg then none else
  (hb_on r3.2 x2 9 (f_X9_classInfo x2 (xs9 (x4 + (1 : Int32)).toNatClampNeg) (xs9 (x4 + (2 : Int32)).toNatClampNeg) r3.2)).bind fun r6 =>
  (hb_on r6.2 x2 9 (f_X9_thrown x2 r6.2)).bind fun r7 =>
  if r7.1 = r3.1 then
    if r3.1 = 0 then
      (hb_lald r7.2 x3 (0 : Int32)).bind fun r10 =>
      if (lg_cmp r10 r6.1.toInt64) = 0 then
        f_L_law_b394 L9 xs9 k23 x1 x2 x3 x4 r7.2
      else
        some ((0 : Int32), r7.2)
    else
      f_L_law_b394 L9 xs9 k23 x1 x2 x3 x4 r7.2
  else
    some ((0 : Int32), r7.2)
def f_L_law_b316 (L9 : Nat) (xs9 : Nat → Int32) (k23 : Nat → Nat → Nat → Int32 → hb_M → Option (Int32 × hb_M)) (x1 : Nat) (x2 : Nat) (x3 : Nat) (x4 : Int32) (σ : hb_M) : Option (Int32 × hb_M) :=
  (hb_on σ x1 8 (f_X8_classes x1 σ)).bind fun r1 =>
  (hb_on r1.2 x2 9 (f_X9_classes x2 r1.2)).bind fun r2 =>
  if r1.1 = r2.1 then
    f_L_law_b2704 L9 xs9 k23 x1 x2 x3 x4 r2.2
  else
    some ((0 : Int32), r2.2)
def f_L_law_b313 (L9 : Nat) (xs9 : Nat → Int32) (k23 : Nat → Nat → Nat → Int32 → hb_M → Option (Int32 × hb_M)) (x1 : Nat) (x2 : Nat) (x3 : Nat) (x4 : Int32) (σ : hb_M) : Option (Int32 × hb_M) :=
  f_L_law_b2704 L9 xs9 k23 x1 x2 x3 x4 σ
def f_L_law_b236 (L9 : Nat) (xs9 : Nat → Int32) (k23 : Nat → Nat → Nat → Int32 → hb_M → Option (Int32 × hb_M)) (x1 : Nat) (x2 : Nat) (x3 : Nat) (x4 : Int32) (σ : hb_M) : Option (Int32 × hb_M) :=
  if (x4 + (1 : Int32)) < 0 ∨ L9 ≤ (x4 + (1 : Int32)).toNatClampNeg then none else
  if (x4 + (2 : Int32)) < 0 ∨ L9 ≤ (x4 + (2 : Int32)).toNatClampNeg then none else
  if (x4 + (3 : Int32)) < 0 ∨ L9 ≤ (x4 + (3 : Int32)).toNatClampNeg then none else
  (f_L_defineClass x1 (xs9 (x4 + (1 : Int32)).toNatClampNeg) (xs9 (x4 + (2 : Int32)).toNatClampNeg) (xs9 (x4 + (3 : Int32)).toNatClampNeg) x3 σ).bind fun r4 =>
  if (x4 + (1 : Int32)) < 0 ∨ L9 ≤ (x4 + (1 : Int32)).toNatClampNeg then none else
  if (x4 + (2 : Int32)) < 0 ∨ L9 ≤ (x4 + (2 : Int32)).toNatClampNeg then none else
  if (x4 + (3 : Int32)) < 0 ∨ L9 ≤ (x4 + (3 : Int32)).toNatClampNeg then none else
  (hb_on r4.2 x2 9 (f_X9_defineClass x2 (xs9 (x4 + (1 : Int32)).toNatClampNeg) (xs9 (x4 + (2 : Int32)).toNatClampNeg) (xs9 (x4 + (3 : Int32)).toNatClampNeg) r4.2)).bind fun r8 =>
  (hb_on r8.2 x2 9 (f_X9_thrown x2 r8.2)).bind fun r9 =>
  if r9.1 = r4.1 then
    if r4.1 = 0 then
      (hb_lald r9.2 x3 (0 : Int32)).bind fun r12 =>
      if (lg_cmp r12 r8.1.toInt64) = 0 then
        f_L_law_b313 L9 xs9 k23 x1 x2 x3 x4 r9.2
      else
        some ((0 : Int32), r9.2)
    else
      f_L_law_b313 L9 xs9 k23 x1 x2 x3 x4 r9.2
  else
    some ((0 : Int32), r9.2)
def f_L_law_b23 (L9 : Nat) (xs9 : Nat → Int32) : Nat → Nat → Nat → Nat → Int32 → hb_M → Option (Int32 × hb_M)
  | 0, _, _, _, _, _ => none
  | n + 1, x1, x2, x3, x4, σ =>
    if ((Int32.ofNat L9) - (4 : Int32)) < x4 then
      some ((1 : Int32), σ)
    else
      if x4 < 0 ∨ L9 ≤ x4.toNatClampNeg then none else
      if ((xs9 x4.toNatClampNeg) &&& (63 : Int32)) = (0 : Int32) then
        f_L_law_b236 L9 xs9 (f_L_law_b23 L9 xs9 n) x1 x2 x3 x4 σ
      else if ((xs9 x4.toNatClampNeg) &&& (63 : Int32)) = (1 : Int32) then
        f_L_law_b316 L9 xs9 (f_L_law_b23 L9 xs9 n) x1 x2 x3 x4 σ
      else if ((xs9 x4.toNatClampNeg) &&& (63 : Int32)) = (2 : Int32) then
        f_L_law_b329 L9 xs9 (f_L_law_b23 L9 xs9 n) x1 x2 x3 x4 σ
      else if ((xs9 x4.toNatClampNeg) &&& (63 : Int32)) = (3 : Int32) then
        f_L_law_b397 L9 xs9 (f_L_law_b23 L9 xs9 n) x1 x2 x3 x4 σ
      else if ((xs9 x4.toNatClampNeg) &&& (63 : Int32)) = (4 : Int32) then
        f_L_law_b472 L9 xs9 (f_L_law_b23 L9 xs9 n) x1 x2 x3 x4 σ
      else if ((xs9 x4.toNatClampNeg) &&& (63 : Int32)) = (5 : Int32) then
        f_L_law_b528 L9 xs9 (f_L_law_b23 L9 xs9 n) x1 x2 x3 x4 σ
      else if ((xs9 x4.toNatClampNeg) &&& (63 : Int32)) = (6 : Int32) then
        f_L_law_b584 L9 xs9 (f_L_law_b23 L9 xs9 n) x1 x2 x3 x4 σ
      else if ((xs9 x4.toNatClampNeg) &&& (63 : Int32)) = (7 : Int32) then
        f_L_law_b628 L9 xs9 (f_L_law_b23 L9 xs9 n) x1 x2 x3 x4 σ
      else if ((xs9 x4.toNatClampNeg) &&& (63 : Int32)) = (8 : Int32) then
        f_L_law_b708 L9 xs9 (f_L_law_b23 L9 xs9 n) x1 x2 x3 x4 σ
      else if ((xs9 x4.toNatClampNeg) &&& (63 : Int32)) = (9 : Int32) then
        f_L_law_b776 L9 xs9 (f_L_law_b23 L9 xs9 n) x1 x2 x3 x4 σ
      else if ((xs9 x4.toNatClampNeg) &&& (63 : Int32)) = (10 : Int32) then
        f_L_law_b844 L9 xs9 (f_L_law_b23 L9 xs9 n) x1 x2 x3 x4 σ
      else if ((xs9 x4.toNatClampNeg) &&& (63 : Int32)) = (11 : Int32) then
        f_L_law_b900 L9 xs9 (f_L_law_b23 L9 xs9 n) x1 x2 x3 x4 σ
      else if ((xs9 x4.toNatClampNeg) &&& (63 : Int32)) = (12 : Int32) then
        f_L_law_b968 L9 xs9 (f_L_law_b23 L9 xs9 n) x1 x2 x3 x4 σ
      else if ((xs9 x4.toNatClampNeg) &&& (63 : Int32)) = (13 : Int32) then
        f_L_law_b1036 L9 xs9 (f_L_law_b23 L9 xs9 n) x1 x2 x3 x4 σ
      else if ((xs9 x4.toNatClampNeg) &&& (63 : Int32)) = (14 : Int32) then
        f_L_law_b1049 L9 xs9 (f_L_law_b23 L9 xs9 n) x1 x2 x3 x4 σ
      else if ((xs9 x4.toNatClampNeg) &&& (63 : Int32)) = (15 : Int32) then
        f_L_law_b1062 L9 xs9 (f_L_law_b23 L9 xs9 n) x1 x2 x3 x4 σ
      else if ((xs9 x4.toNatClampNeg) &&& (63 : Int32)) = (16 : Int32) then
        f_L_law_b1087 L9 xs9 (f_L_law_b23 L9 xs9 n) x1 x2 x3 x4 σ
      else if ((xs9 x4.toNatClampNeg) &&& (63 : Int32)) = (17 : Int32) then
        f_L_law_b1155 L9 xs9 (f_L_law_b23 L9 xs9 n) x1 x2 x3 x4 σ
      else if ((xs9 x4.toNatClampNeg) &&& (63 : Int32)) = (18 : Int32) then
        f_L_law_b1223 L9 xs9 (f_L_law_b23 L9 xs9 n) x1 x2 x3 x4 σ
      else if ((xs9 x4.toNatClampNeg) &&& (63 : Int32)) = (19 : Int32) then
        f_L_law_b1279 L9 xs9 (f_L_law_b23 L9 xs9 n) x1 x2 x3 x4 σ
      else if ((xs9 x4.toNatClampNeg) &&& (63 : Int32)) = (20 : Int32) then
        f_L_law_b1347 L9 xs9 (f_L_law_b23 L9 xs9 n) x1 x2 x3 x4 σ
      else if ((xs9 x4.toNatClampNeg) &&& (63 : Int32)) = (21 : Int32) then
        f_L_law_b1422 L9 xs9 (f_L_law_b23 L9 xs9 n) x1 x2 x3 x4 σ
      else if ((xs9 x4.toNatClampNeg) &&& (63 : Int32)) = (22 : Int32) then
        f_L_law_b1478 L9 xs9 (f_L_law_b23 L9 xs9 n) x1 x2 x3 x4 σ
      else if ((xs9 x4.toNatClampNeg) &&& (63 : Int32)) = (23 : Int32) then
        f_L_law_b1534 L9 xs9 (f_L_law_b23 L9 xs9 n) x1 x2 x3 x4 σ
      else if ((xs9 x4.toNatClampNeg) &&& (63 : Int32)) = (24 : Int32) then
        f_L_law_b1602 L9 xs9 (f_L_law_b23 L9 xs9 n) x1 x2 x3 x4 σ
      else if ((xs9 x4.toNatClampNeg) &&& (63 : Int32)) = (25 : Int32) then
        f_L_law_b1658 L9 xs9 (f_L_law_b23 L9 xs9 n) x1 x2 x3 x4 σ
      else if ((xs9 x4.toNatClampNeg) &&& (63 : Int32)) = (26 : Int32) then
        f_L_law_b1714 L9 xs9 (f_L_law_b23 L9 xs9 n) x1 x2 x3 x4 σ
      else if ((xs9 x4.toNatClampNeg) &&& (63 : Int32)) = (27 : Int32) then
        f_L_law_b1770 L9 xs9 (f_L_law_b23 L9 xs9 n) x1 x2 x3 x4 σ
      else if ((xs9 x4.toNatClampNeg) &&& (63 : Int32)) = (28 : Int32) then
        f_L_law_b1826 L9 xs9 (f_L_law_b23 L9 xs9 n) x1 x2 x3 x4 σ
      else if ((xs9 x4.toNatClampNeg) &&& (63 : Int32)) = (29 : Int32) then
        f_L_law_b1894 L9 xs9 (f_L_law_b23 L9 xs9 n) x1 x2 x3 x4 σ
      else if ((xs9 x4.toNatClampNeg) &&& (63 : Int32)) = (30 : Int32) then
        f_L_law_b1950 L9 xs9 (f_L_law_b23 L9 xs9 n) x1 x2 x3 x4 σ
      else if ((xs9 x4.toNatClampNeg) &&& (63 : Int32)) = (31 : Int32) then
        f_L_law_b2046 L9 xs9 (f_L_law_b23 L9 xs9 n) x1 x2 x3 x4 σ
      else if ((xs9 x4.toNatClampNeg) &&& (63 : Int32)) = (32 : Int32) then
        f_L_law_b2101 L9 xs9 (f_L_law_b23 L9 xs9 n) x1 x2 x3 x4 σ
      else if ((xs9 x4.toNatClampNeg) &&& (63 : Int32)) = (33 : Int32) then
        f_L_law_b2157 L9 xs9 (f_L_law_b23 L9 xs9 n) x1 x2 x3 x4 σ
      else if ((xs9 x4.toNatClampNeg) &&& (63 : Int32)) = (34 : Int32) then
        f_L_law_b2225 L9 xs9 (f_L_law_b23 L9 xs9 n) x1 x2 x3 x4 σ
      else if ((xs9 x4.toNatClampNeg) &&& (63 : Int32)) = (35 : Int32) then
        f_L_law_b2293 L9 xs9 (f_L_law_b23 L9 xs9 n) x1 x2 x3 x4 σ
      else if ((xs9 x4.toNatClampNeg) &&& (63 : Int32)) = (36 : Int32) then
        f_L_law_b2349 L9 xs9 (f_L_law_b23 L9 xs9 n) x1 x2 x3 x4 σ
      else if ((xs9 x4.toNatClampNeg) &&& (63 : Int32)) = (37 : Int32) then
        f_L_law_b2362 L9 xs9 (f_L_law_b23 L9 xs9 n) x1 x2 x3 x4 σ
      else if ((xs9 x4.toNatClampNeg) &&& (63 : Int32)) = (38 : Int32) then
        f_L_law_b2375 L9 xs9 (f_L_law_b23 L9 xs9 n) x1 x2 x3 x4 σ
      else if ((xs9 x4.toNatClampNeg) &&& (63 : Int32)) = (39 : Int32) then
        f_L_law_b2400 L9 xs9 (f_L_law_b23 L9 xs9 n) x1 x2 x3 x4 σ
      else if ((xs9 x4.toNatClampNeg) &&& (63 : Int32)) = (40 : Int32) then
        f_L_law_b2441 L9 xs9 (f_L_law_b23 L9 xs9 n) x1 x2 x3 x4 σ
      else if ((xs9 x4.toNatClampNeg) &&& (63 : Int32)) = (41 : Int32) then
        f_L_law_b2454 L9 xs9 (f_L_law_b23 L9 xs9 n) x1 x2 x3 x4 σ
      else if ((xs9 x4.toNatClampNeg) &&& (63 : Int32)) = (42 : Int32) then
        f_L_law_b2510 L9 xs9 (f_L_law_b23 L9 xs9 n) x1 x2 x3 x4 σ
      else if ((xs9 x4.toNatClampNeg) &&& (63 : Int32)) = (43 : Int32) then
        f_L_law_b2578 L9 xs9 (f_L_law_b23 L9 xs9 n) x1 x2 x3 x4 σ
      else if ((xs9 x4.toNatClampNeg) &&& (63 : Int32)) = (44 : Int32) then
        f_L_law_b2646 L9 xs9 (f_L_law_b23 L9 xs9 n) x1 x2 x3 x4 σ
      else if ((xs9 x4.toNatClampNeg) &&& (63 : Int32)) = (45 : Int32) then
        f_L_law_b2690 L9 xs9 (f_L_law_b23 L9 xs9 n) x1 x2 x3 x4 σ
      else 
        f_L_law_b2704 L9 xs9 (f_L_law_b23 L9 xs9 n) x1 x2 x3 x4 σ
def f_L_law (L9 : Nat) (xs9 : Nat → Int32) (σ : hb_M) : Option (Int32 × hb_M) :=
  (hb_newO σ 8 9).bind fun r1 =>
  (f_X8_init r1.1 r1.2).bind fun r2 =>
  (hb_newO r2 9 29).bind fun r3 =>
  (f_X9_init r3.1 r3.2).bind fun r4 =>
  (hb_newA r4 1 (1 : Int32)).bind fun r5 =>
  f_L_law_b23 L9 xs9 600 r1.1 r3.1 r5.1 (0 : Int32) r5.2
