def f_L_defineClass (x0 : Nat) (x1 : Int32) (x2 : Int32) (x3 : Int32) (x4 : Nat) (σ : hb_M) : Option (Int32 × hb_M) :=
  hb_xc (hb_on σ x0 8 (f_X8_defineClass x0 x1 x2 x3 σ)) (fun E s => if E = hb_e1 then some ((1 : Int32), s) else if E = hb_e2 then some ((2 : Int32), s) else if E = hb_e3 then some ((3 : Int32), s) else none) fun v1 r1 =>
  (hb_last r1 x4 (0 : Int32) v1.toInt64).bind fun r2 =>
  some ((0 : Int32), r2)
def f_L_classInfo (x0 : Nat) (x1 : Int32) (x2 : Int32) (x3 : Nat) (σ : hb_M) : Option (Int32 × hb_M) :=
  hb_xc (hb_on σ x0 8 (f_X8_classInfo x0 x1 x2 σ)) (fun E s => if E = hb_e1 then some ((1 : Int32), s) else if E = hb_e2 then some ((2 : Int32), s) else none) fun v1 r1 =>
  (hb_last r1 x3 (0 : Int32) v1.toInt64).bind fun r2 =>
  some ((0 : Int32), r2)
def f_L_isSubclass_b16 (s0 : Nat) (s1 : Int32) (s2 : Int64) (σ : hb_M) : Option (Int32 × hb_M) :=
  (hb_last σ s0 s1 s2).bind fun r1 =>
  some ((0 : Int32), r1)
def f_L_isSubclass (x0 : Nat) (x1 : Int32) (x2 : Int32) (x3 : Nat) (σ : hb_M) : Option (Int32 × hb_M) :=
  hb_xc (hb_on σ x0 8 (f_X8_isSubclass x0 x1 x2 σ)) (fun E s => if E = hb_e1 then some ((1 : Int32), s) else none) fun v1 r1 =>
  if v1 = 0 then
    f_L_isSubclass_b16 x3 (0 : Int32) (0 : Int64) r1
  else
    f_L_isSubclass_b16 x3 (0 : Int32) (1 : Int64) r1
def f_L_newInstance (x0 : Nat) (x1 : Int32) (x2 : Nat) (σ : hb_M) : Option (Int32 × hb_M) :=
  hb_xc (hb_on σ x0 8 (f_X8_newInstance x0 x1 σ)) (fun E s => if E = hb_e1 then some ((1 : Int32), s) else if E = hb_e3 then some ((2 : Int32), s) else none) fun v1 r1 =>
  (hb_last r1 x2 (0 : Int32) v1.toInt64).bind fun r2 =>
  some ((0 : Int32), r2)
def f_L_newArray (x0 : Nat) (x1 : Int32) (x2 : Nat) (σ : hb_M) : Option (Int32 × hb_M) :=
  hb_xc (hb_on σ x0 8 (f_X8_newArray x0 x1 σ)) (fun E s => if E = hb_e2 then some ((1 : Int32), s) else if E = hb_e3 then some ((2 : Int32), s) else none) fun v1 r1 =>
  (hb_last r1 x2 (0 : Int32) v1.toInt64).bind fun r2 =>
  some ((0 : Int32), r2)
def f_L_newHolder (x0 : Nat) (x1 : Nat) (σ : hb_M) : Option (Int32 × hb_M) :=
  hb_xc (hb_on σ x0 8 (f_X8_newHolder x0 σ)) (fun E s => if E = hb_e3 then some ((1 : Int32), s) else none) fun v1 r1 =>
  (hb_last r1 x1 (0 : Int32) v1.toInt64).bind fun r2 =>
  some ((0 : Int32), r2)
def f_L_set (x0 : Nat) (x1 : Int32) (x2 : Int32) (x3 : Int32) (x4 : Nat) (σ : hb_M) : Option (Int32 × hb_M) :=
  hb_xc (hb_on σ x0 8 (f_X8_set x0 x1 x2 x3 σ)) (fun E s => if E = hb_e1 then some ((1 : Int32), s) else none) fun v1 r1 =>
  (hb_last r1 x4 (0 : Int32) v1.toInt64).bind fun r2 =>
  some ((0 : Int32), r2)
def f_L_get (x0 : Nat) (x1 : Int32) (x2 : Int32) (x3 : Nat) (σ : hb_M) : Option (Int32 × hb_M) :=
  hb_xc (hb_on σ x0 8 (f_X8_get x0 x1 x2 σ)) (fun E s => if E = hb_e1 then some ((1 : Int32), s) else none) fun v1 r1 =>
  (hb_last r1 x3 (0 : Int32) v1.toInt64).bind fun r2 =>
  some ((0 : Int32), r2)
def f_L_resizeArray (x0 : Nat) (x1 : Int32) (x2 : Int32) (x3 : Nat) (σ : hb_M) : Option (Int32 × hb_M) :=
  hb_xc (hb_on σ x0 8 (f_X8_resizeArray x0 x1 x2 σ)) (fun E s => if E = hb_e1 then some ((1 : Int32), s) else if E = hb_e2 then some ((2 : Int32), s) else if E = hb_e3 then some ((3 : Int32), s) else none) fun v1 r1 =>
  (hb_last r1 x3 (0 : Int32) v1.toInt64).bind fun r2 =>
  some ((0 : Int32), r2)
def f_L_referent (x0 : Nat) (x1 : Int32) (x2 : Nat) (σ : hb_M) : Option (Int32 × hb_M) :=
  hb_xc (hb_on σ x0 8 (f_X8_referent x0 x1 σ)) (fun E s => if E = hb_e1 then some ((1 : Int32), s) else if E = hb_e3 then some ((2 : Int32), s) else none) fun v1 r1 =>
  (hb_last r1 x2 (0 : Int32) v1.toInt64).bind fun r2 =>
  some ((0 : Int32), r2)
def f_L_addRoot (x0 : Nat) (x1 : Int32) (x2 : Int32) (x3 : Nat) (σ : hb_M) : Option (Int32 × hb_M) :=
  hb_xc (hb_on σ x0 8 (f_X8_addRoot x0 x1 x2 σ)) (fun E s => if E = hb_e1 then some ((1 : Int32), s) else if E = hb_e2 then some ((2 : Int32), s) else none) fun v1 r1 =>
  (hb_last r1 x3 (0 : Int32) v1.toInt64).bind fun r2 =>
  some ((0 : Int32), r2)
def f_L_removeRoot (x0 : Nat) (x1 : Int32) (x2 : Int32) (x3 : Nat) (σ : hb_M) : Option (Int32 × hb_M) :=
  hb_xc (hb_on σ x0 8 (f_X8_removeRoot x0 x1 x2 σ)) (fun E s => if E = hb_e1 then some ((1 : Int32), s) else if E = hb_e2 then some ((2 : Int32), s) else if E = hb_e3 then some ((3 : Int32), s) else none) fun v1 r1 =>
  (hb_last r1 x3 (0 : Int32) v1.toInt64).bind fun r2 =>
  some ((0 : Int32), r2)
def f_L_objectInfo (x0 : Nat) (x1 : Int32) (x2 : Int32) (x3 : Nat) (σ : hb_M) : Option (Int32 × hb_M) :=
  hb_xc (hb_on σ x0 8 (f_X8_objectInfo x0 x1 x2 σ)) (fun E s => if E = hb_e1 then some ((1 : Int32), s) else if E = hb_e2 then some ((2 : Int32), s) else none) fun v1 r1 =>
  (hb_last r1 x3 (0 : Int32) v1.toInt64).bind fun r2 =>
  some ((0 : Int32), r2)
def f_L_populate (x0 : Nat) (x1 : Int32) (x2 : Int32) (x3 : Nat) (σ : hb_M) : Option (Int32 × hb_M) :=
  hb_xc (hb_on σ x0 8 (f_X8_populate x0 x1 x2 σ)) (fun E s => if E = hb_e2 then some ((1 : Int32), s) else if E = hb_e3 then some ((2 : Int32), s) else none) fun v1 r1 =>
  (hb_last r1 x3 (0 : Int32) v1.toInt64).bind fun r2 =>
  some ((0 : Int32), r2)
def f_L_distance (x0 : Nat) (x1 : Int32) (x2 : Nat) (σ : hb_M) : Option (Int32 × hb_M) :=
  hb_xc (hb_on σ x0 8 (f_X8_distance x0 x1 σ)) (fun E s => if E = hb_e1 then some ((1 : Int32), s) else none) fun v1 r1 =>
  (hb_last r1 x2 (0 : Int32) v1.toInt64).bind fun r2 =>
  some ((0 : Int32), r2)
def f_L_pathAt (x0 : Nat) (x1 : Int32) (x2 : Int32) (x3 : Nat) (σ : hb_M) : Option (Int32 × hb_M) :=
  hb_xc (hb_on σ x0 8 (f_X8_pathAt x0 x1 x2 σ)) (fun E s => if E = hb_e1 then some ((1 : Int32), s) else none) fun v1 r1 =>
  (hb_last r1 x3 (0 : Int32) v1.toInt64).bind fun r2 =>
  some ((0 : Int32), r2)
def f_L_dominates_b16 (s0 : Nat) (s1 : Int32) (s2 : Int64) (σ : hb_M) : Option (Int32 × hb_M) :=
  (hb_last σ s0 s1 s2).bind fun r1 =>
  some ((0 : Int32), r1)
def f_L_dominates (x0 : Nat) (x1 : Int32) (x2 : Int32) (x3 : Nat) (σ : hb_M) : Option (Int32 × hb_M) :=
  hb_xc (hb_on σ x0 8 (f_X8_dominates x0 x1 x2 σ)) (fun E s => if E = hb_e1 then some ((1 : Int32), s) else none) fun v1 r1 =>
  if v1 = 0 then
    f_L_dominates_b16 x3 (0 : Int32) (0 : Int64) r1
  else
    f_L_dominates_b16 x3 (0 : Int32) (1 : Int64) r1
def f_L_dominator (x0 : Nat) (x1 : Int32) (x2 : Nat) (σ : hb_M) : Option (Int32 × hb_M) :=
  hb_xc (hb_on σ x0 8 (f_X8_dominator x0 x1 σ)) (fun E s => if E = hb_e1 then some ((1 : Int32), s) else none) fun v1 r1 =>
  (hb_last r1 x2 (0 : Int32) v1.toInt64).bind fun r2 =>
  some ((0 : Int32), r2)
def f_L_depth (x0 : Nat) (x1 : Int32) (x2 : Nat) (σ : hb_M) : Option (Int32 × hb_M) :=
  hb_xc (hb_on σ x0 8 (f_X8_depth x0 x1 σ)) (fun E s => if E = hb_e1 then some ((1 : Int32), s) else none) fun v1 r1 =>
  (hb_last r1 x2 (0 : Int32) v1.toInt64).bind fun r2 =>
  some ((0 : Int32), r2)
def f_L_dominatedAt (x0 : Nat) (x1 : Int32) (x2 : Int32) (x3 : Nat) (σ : hb_M) : Option (Int32 × hb_M) :=
  hb_xc (hb_on σ x0 8 (f_X8_dominatedAt x0 x1 x2 σ)) (fun E s => if E = hb_e1 then some ((1 : Int32), s) else none) fun v1 r1 =>
  (hb_last r1 x3 (0 : Int32) v1.toInt64).bind fun r2 =>
  some ((0 : Int32), r2)
def f_L_retainedSize (x0 : Nat) (x1 : Int32) (x2 : Nat) (σ : hb_M) : Option (Int32 × hb_M) :=
  hb_xc (hb_on σ x0 8 (f_X8_retainedSize x0 x1 σ)) (fun E s => if E = hb_e1 then some ((1 : Int32), s) else none) fun v1 r1 =>
  (hb_last r1 x2 (0 : Int32) v1.toInt64).bind fun r2 =>
  some ((0 : Int32), r2)
def f_L_retainedObjects (x0 : Nat) (x1 : Int32) (x2 : Nat) (σ : hb_M) : Option (Int32 × hb_M) :=
  hb_xc (hb_on σ x0 8 (f_X8_retainedObjects x0 x1 σ)) (fun E s => if E = hb_e1 then some ((1 : Int32), s) else none) fun v1 r1 =>
  (hb_last r1 x2 (0 : Int32) v1.toInt64).bind fun r2 =>
  some ((0 : Int32), r2)
def f_L_component (x0 : Nat) (x1 : Int32) (x2 : Nat) (σ : hb_M) : Option (Int32 × hb_M) :=
  hb_xc (hb_on σ x0 8 (f_X8_component x0 x1 σ)) (fun E s => if E = hb_e1 then some ((1 : Int32), s) else none) fun v1 r1 =>
  (hb_last r1 x2 (0 : Int32) v1.toInt64).bind fun r2 =>
  some ((0 : Int32), r2)
def f_L_componentSize (x0 : Nat) (x1 : Int32) (x2 : Nat) (σ : hb_M) : Option (Int32 × hb_M) :=
  hb_xc (hb_on σ x0 8 (f_X8_componentSize x0 x1 σ)) (fun E s => if E = hb_e1 then some ((1 : Int32), s) else none) fun v1 r1 =>
  (hb_last r1 x2 (0 : Int32) v1.toInt64).bind fun r2 =>
  some ((0 : Int32), r2)
def f_L_freedByClearing (x0 : Nat) (x1 : Int32) (x2 : Int32) (x3 : Nat) (σ : hb_M) : Option (Int32 × hb_M) :=
  hb_xc (hb_on σ x0 8 (f_X8_freedByClearing x0 x1 x2 σ)) (fun E s => if E = hb_e1 then some ((1 : Int32), s) else none) fun v1 r1 =>
  (hb_last r1 x3 (0 : Int32) v1.toInt64).bind fun r2 =>
  some ((0 : Int32), r2)
def f_L_freedByUnrooting (x0 : Nat) (x1 : Int32) (x2 : Nat) (σ : hb_M) : Option (Int32 × hb_M) :=
  hb_xc (hb_on σ x0 8 (f_X8_freedByUnrooting x0 x1 σ)) (fun E s => if E = hb_e1 then some ((1 : Int32), s) else none) fun v1 r1 =>
  (hb_last r1 x2 (0 : Int32) v1.toInt64).bind fun r2 =>
  some ((0 : Int32), r2)
def f_L_group (x0 : Nat) (x1 : Int32) (x2 : Int32) (x3 : Int32) (x4 : Nat) (σ : hb_M) : Option (Int32 × hb_M) :=
  hb_xc (hb_on σ x0 8 (f_X8_group x0 x1 x2 x3 σ)) (fun E s => if E = hb_e1 then some ((1 : Int32), s) else if E = hb_e2 then some ((2 : Int32), s) else none) fun v1 r1 =>
  (hb_last r1 x4 (0 : Int32) v1.toInt64).bind fun r2 =>
  some ((0 : Int32), r2)
def f_L_meanRetainedBits (x0 : Nat) (x1 : Int32) (x2 : Nat) (σ : hb_M) : Option (Int32 × hb_M) :=
  hb_xc (hb_on σ x0 8 (f_X8_meanRetainedBits x0 x1 σ)) (fun E s => if E = hb_e1 then some ((1 : Int32), s) else none) fun v1 r1 =>
  (hb_last r1 x2 (0 : Int32) v1).bind fun r2 =>
  some ((0 : Int32), r2)
def f_L_shareBits (x0 : Nat) (x1 : Int32) (x2 : Nat) (σ : hb_M) : Option (Int32 × hb_M) :=
  hb_xc (hb_on σ x0 8 (f_X8_shareBits x0 x1 σ)) (fun E s => if E = hb_e1 then some ((1 : Int32), s) else none) fun v1 r1 =>
  (hb_last r1 x2 (0 : Int32) v1.toInt64).bind fun r2 =>
  some ((0 : Int32), r2)
def f_L_suspectAt (x0 : Nat) (x1 : Int32) (x2 : Int32) (x3 : Nat) (σ : hb_M) : Option (Int32 × hb_M) :=
  hb_xc (hb_on σ x0 8 (f_X8_suspectAt x0 x1 x2 σ)) (fun E s => if E = hb_e2 then some ((1 : Int32), s) else none) fun v1 r1 =>
  (hb_last r1 x3 (0 : Int32) v1.toInt64).bind fun r2 =>
  some ((0 : Int32), r2)
def f_L_accumulationPoint (x0 : Nat) (x1 : Int32) (x2 : Int32) (x3 : Nat) (σ : hb_M) : Option (Int32 × hb_M) :=
  hb_xc (hb_on σ x0 8 (f_X8_accumulationPoint x0 x1 x2 σ)) (fun E s => if E = hb_e1 then some ((1 : Int32), s) else if E = hb_e2 then some ((2 : Int32), s) else if E = hb_e3 then some ((3 : Int32), s) else none) fun v1 r1 =>
  (hb_last r1 x3 (0 : Int32) v1.toInt64).bind fun r2 =>
  some ((0 : Int32), r2)
def f_L_append (x0 : Nat) (x1 : Int32) (x2 : Nat) (σ : hb_M) : Option (Int32 × hb_M) :=
  hb_xc (hb_on σ x0 8 (f_X8_append x0 x1 σ)) (fun E s => if E = hb_e2 then some ((1 : Int32), s) else if E = hb_e3 then some ((2 : Int32), s) else none) fun v1 r1 =>
  (hb_last r1 x2 (0 : Int32) v1.toInt64).bind fun r2 =>
  some ((0 : Int32), r2)
def f_L_take (x0 : Nat) (x1 : Int32) (x2 : Nat) (σ : hb_M) : Option (Int32 × hb_M) :=
  hb_xc (hb_on σ x0 8 (f_X8_take x0 x1 σ)) (fun E s => if E = hb_e1 then some ((1 : Int32), s) else none) fun v1 r1 =>
  (hb_last r1 x2 (0 : Int32) v1.toInt64).bind fun r2 =>
  some ((0 : Int32), r2)
def f_L_compare (x0 : Nat) (x1 : Int32) (x2 : Int32) (x3 : Nat) (σ : hb_M) : Option (Int32 × hb_M) :=
  hb_xc (hb_on σ x0 8 (f_X8_compare x0 x1 x2 σ)) (fun E s => if E = hb_e1 then some ((1 : Int32), s) else if E = hb_e2 then some ((2 : Int32), s) else if E = hb_e3 then some ((3 : Int32), s) else none) fun v1 r1 =>
  (hb_last r1 x3 (0 : Int32) v1.toInt64).bind fun r2 =>
  some ((0 : Int32), r2)
def f_L_growth (x0 : Nat) (x1 : Int32) (x2 : Int32) (x3 : Nat) (σ : hb_M) : Option (Int32 × hb_M) :=
  hb_xc (hb_on σ x0 8 (f_X8_growth x0 x1 x2 σ)) (fun E s => if E = hb_e1 then some ((1 : Int32), s) else if E = hb_e3 then some ((2 : Int32), s) else none) fun v1 r1 =>
  (hb_last r1 x3 (0 : Int32) v1.toInt64).bind fun r2 =>
  some ((0 : Int32), r2)
def f_L_undo (x0 : Nat) (x1 : Nat) (σ : hb_M) : Option (Int32 × hb_M) :=
  hb_xc (hb_on σ x0 8 (f_X8_undo x0 σ)) (fun E s => if E = hb_e3 then some ((1 : Int32), s) else none) fun v1 r1 =>
  (hb_last r1 x1 (0 : Int32) v1.toInt64).bind fun r2 =>
  some ((0 : Int32), r2)
