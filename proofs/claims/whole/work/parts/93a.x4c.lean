/-! the class's heap: what it refuses, what it tells, copies -/
set_option maxRecDepth 8192 in
theorem pn_gt {g : Nat} {x : Int32} (hg : g + 1 < 2 ^ 31) : (nI g < x) = (nI (g + 1) ≤ x) := propext (by
  rw [fa_lt, fa_le, nI_toInt (by omega), nI_toInt hg]
  omega)
set_option maxRecDepth 8192 in
theorem pn_rng {α : Type} {g : Nat} {x : Int32} {a b : α} (hg : g + 1 < 2 ^ 31) : (if x < nI 0 then a else if nI g < x then a else b) = if (pn_at (g + 1) x).isSome then b else a := by
  rw [← pw_some hg, mI_s]
  by_cases h1 : x < nI 0
  · simp [h1]
  · by_cases h2 : nI g < x
    · simp [h1, h2]
    · simp [h1, h2]
def pz_E (n : Nat) : String := if n = 1 then hb_e1 else if n = 2 then hb_e2 else hb_e3
set_option maxRecDepth 8192 in
theorem pz_xb {β : Type} {n : Nat} (hn : n ≤ 3) {σ : hb_M} {k : Unit → hb_M → Option ((String ⊕ β) × hb_M)} : hb_xb (f_X8_refuse (nI n) σ) k = if n = 0 then k () σ else some (.inl (pz_E n), σ) := by
  unfold f_X8_refuse
  match n, hn with
  | 0, _ =>
    rw [if_neg (show ¬ nI 0 = 1 from by decide), if_neg (show ¬ nI 0 = 2 from by decide), if_neg (show ¬ nI 0 = 3 from by decide), if_pos rfl]
    rfl
  | 1, _ =>
    rw [if_pos (show nI 1 = 1 from by decide), if_neg (by decide)]
    rfl
  | 2, _ =>
    rw [if_neg (show ¬ nI 2 = 1 from by decide), if_pos (show nI 2 = 2 from by decide), if_neg (by decide)]
    rfl
  | 3, _ =>
    rw [if_neg (show ¬ nI 3 = 1 from by decide), if_neg (show ¬ nI 3 = 2 from by decide), if_pos (show nI 3 = 3 from by decide), if_neg (by decide)]
    rfl
set_option maxRecDepth 8192 in
theorem pz_xu {β : Type} {b : Bool} {σ : hb_M} {k : Unit → hb_M → Option ((String ⊕ β) × hb_M)} : hb_xb (f_X8_refuseUnless (bI b) σ) k = if b = true then k () σ else some (.inl hb_e1, σ) := by
  unfold f_X8_refuseUnless f_X8_refuseUnless_b9
  cases b
  · rw [if_pos (show bI false = 0 from by decide), show (1 : Int32) = nI 1 from rfl, pz_xb (by decide)]
    rfl
  · rw [if_neg (show ¬ bI true = 0 from by decide), show (0 : Int32) = nI 0 from rfl, pz_xb (by decide)]
    rfl
def pz_of (b : Bool) (x : Int32) (g : Nat) : Nat := if b = true then (if (pn_at (g + 1) x).isSome then 0 else 2) else 1
set_option maxRecDepth 8192 in
theorem pz_of_le (b : Bool) (x : Int32) (g : Nat) : pz_of b x g ≤ 3 := by
  unfold pz_of
  split
  · split <;> decide
  · decide
set_option maxRecDepth 8192 in
theorem x8_problemOf {b : Bool} {x : Int32} {g : Nat} (hg : g + 1 < 2 ^ 31) {σ : hb_M} : f_X8_problemOf (bI b) x (nI g) σ = some (nI (pz_of b x g), σ) := by
  unfold f_X8_problemOf pz_of
  simp only [plit, bIn, pn_rng hg]
  cases b
  · rfl
  · cases (pn_at (g + 1) x).isSome <;> rfl
def pa_isG (A : Nat → Nat → Nat) (x : Int32) : Bool := pa_isC A x || decide (x = nI 10) || decide (x = nI 11)
def pz_full (A : Nat → Nat → Nat) : Nat := if fb_ct (pa_al A) 40 < 40 then 0 else 3
def pz_cls (A : Nat → Nat → Nat) (x y z : Int32) : Nat := match pn_at (A 40 0) x with
  | none => 1
  | some c => match pn_at 4 y with
    | none => 2
    | some f => match pn_at 41 z with
      | none => 2
      | some _ => if pa_fo A c + f ≤ 5 then (if A 40 0 < 10 then 0 else 3) else 2
def pz_ins (A : Nat → Nat → Nat) (x : Int32) : Nat := if pa_isC A x = true then pz_full A else 1
def pz_arr (A : Nat → Nat → Nat) (x : Int32) : Nat := if (pn_at 9 x).isSome then pz_full A else 2
def pz_set (A : Nat → Nat → Nat) (x y z : Int32) : Nat := if (pa_isS A x y && (decide (z = -nI 1) || pa_isO A z)) = true then 0 else 1
def pz_len (A : Nat → Nat → Nat) (x y : Int32) : Nat := match pn_at 40 x with
  | none => 1
  | some o => if A o 0 = 0 then 1 else if (pn_at 9 y).isSome then (if A o 1 = 10 then 0 else 3) else 2
def pz_root (A : Nat → Nat → Nat) (x y : Int32) : Nat := pz_of (pa_isO A x) y 2
def pz_unr (A : Nat → Nat → Nat) (x y : Int32) : Nat := match pn_at 40 x with
  | none => 1
  | some o => if A o 0 = 0 then 1 else match pn_at 3 y with
    | none => 2
    | some k => if A o 4 / 2 ^ k % 2 = 1 then 0 else 3
set_option maxRecDepth 8192 in
theorem pz_full_le (A : Nat → Nat → Nat) : pz_full A ≤ 3 := by unfold pz_full; split <;> decide
set_option maxRecDepth 8192 in
theorem pz_cls_le (A : Nat → Nat → Nat) (x y z : Int32) : pz_cls A x y z ≤ 3 := by
  unfold pz_cls
  split
  · decide
  · split
    · decide
    · split
      · decide
      · split
        · split <;> decide
        · decide
set_option maxRecDepth 8192 in
theorem pz_ins_le (A : Nat → Nat → Nat) (x : Int32) : pz_ins A x ≤ 3 := by
  unfold pz_ins
  split
  · exact pz_full_le A
  · decide
set_option maxRecDepth 8192 in
theorem pz_arr_le (A : Nat → Nat → Nat) (x : Int32) : pz_arr A x ≤ 3 := by
  unfold pz_arr
  split
  · exact pz_full_le A
  · decide
set_option maxRecDepth 8192 in
theorem pz_set_le (A : Nat → Nat → Nat) (x y z : Int32) : pz_set A x y z ≤ 3 := by unfold pz_set; split <;> decide
set_option maxRecDepth 8192 in
theorem pz_len_le (A : Nat → Nat → Nat) (x y : Int32) : pz_len A x y ≤ 3 := by
  unfold pz_len
  split
  · decide
  · split
    · decide
    · split
      · split <;> decide
      · decide
set_option maxRecDepth 8192 in
theorem pz_unr_le (A : Nat → Nat → Nat) (x y : Int32) : pz_unr A x y ≤ 3 := by
  unfold pz_unr
  split
  · decide
  · split
    · decide
    · split
      · decide
      · split <;> decide
/-! a bit of a small number -/
set_option maxRecDepth 8192 in
theorem pk_bit {v k : Nat} (hv : v ≤ 7) (hk : k < 3) : (nI v >>> (nI k &&& 31)) &&& 1 = nI (v / 2 ^ k % 2) := by
  have key : ∀ v, v < 8 → ∀ k, k < 3 → (nI v >>> (nI k &&& 31)) &&& 1 = nI (v / 2 ^ k % 2) := by decide +kernel
  exact key v (by omega) k hk
set_option maxRecDepth 8192 in
theorem pa_isS_nI {A : Nat → Nat → Nat} {o : Nat} {y : Int32} (ho : o < 40) : pa_isS A (nI o) y = (pa_al A o && (pn_at (A o 2) y).isSome) := by
  unfold pa_isS
  rw [pn_at_nI (by decide) ho]
section X4C
variable {I : Nat → Nat → Int32} {L : Nat → Nat → Int64} {r : Nat → Option Nat} {A : Nat → Nat → Nat} {h : Nat}
set_option maxRecDepth 8192 in
theorem x4_hasGroup (hh : pm_hp h) (hR : ph_rep I h A) (w : pa_wf A) (x : Int32) : f_X4_hasGroup h x (pm I L r) = some (bI (pa_isG A x), pm I L r) := by
  unfold f_X4_hasGroup pa_isG
  simp only [pbs, pO_h hh, pR_h_1 hh, pA_h_1 hh, pS_h_1 hh, pR_h_2 hh, pA_h_2 hh, pS_h_2 hh, pR_h_3 hh, pA_h_3 hh, pS_h_3 hh, pR_h_4 hh, pA_h_4 hh, pS_h_4 hh, pR_h_5 hh, pA_h_5 hh, pS_h_5 hh, pR_h_6 hh, pA_h_6 hh, pS_h_6 hh, pR_h_7 hh, pA_h_7 hh, pS_h_7 hh, pR_h_8 hh, pA_h_8 hh, pS_h_8 hh, pR_h_9 hh, pA_h_9 hh, pS_h_9 hh, pR_h_10 hh, pA_h_10 hh, pS_h_10 hh, pI_h_0 hh, pP_h_0 hh, pI_h_11 hh, pP_h_11 hh, pI_h_12 hh, pP_h_12 hh, plit, nI_add, pk_mul, pn_le, pn_lt, if_true, if_false, reduceIte, x4_hasClass hh hR w, bIn]
  cases pa_isC A x
  · by_cases e1 : x = nI 10
    · simp [e1, bI_t]
    · by_cases e2 : x = nI 11
      · simp [e2, bI_t]
      · simp [e1, e2, bI_f]
  · simp [bI_t]
set_option maxRecDepth 8192 in
theorem x4_pHolder (hh : pm_hp h) (hR : ph_rep I h A) (w : pa_wf A) : f_X4_problemOfHolder h (pm I L r) = some (nI (pz_full A), pm I L r) := by
  have hle := fb_ct_le (pa_al A) 40
  unfold f_X4_problemOfHolder pz_full
  simp (disch := omega) only [pbs, pO_h hh, pR_h_1 hh, pA_h_1 hh, pS_h_1 hh, pR_h_2 hh, pA_h_2 hh, pS_h_2 hh, pR_h_3 hh, pA_h_3 hh, pS_h_3 hh, pR_h_4 hh, pA_h_4 hh, pS_h_4 hh, pR_h_5 hh, pA_h_5 hh, pS_h_5 hh, pR_h_6 hh, pA_h_6 hh, pS_h_6 hh, pR_h_7 hh, pA_h_7 hh, pS_h_7 hh, pR_h_8 hh, pA_h_8 hh, pS_h_8 hh, pR_h_9 hh, pA_h_9 hh, pS_h_9 hh, pR_h_10 hh, pA_h_10 hh, pS_h_10 hh, pI_h_0 hh, pP_h_0 hh, pI_h_11 hh, pP_h_11 hh, pI_h_12 hh, pP_h_12 hh, plit, nI_add, pk_mul, pn_le, pn_lt, if_true, if_false, reduceIte, x4_objectCount hh hR w]
  by_cases e : fb_ct (pa_al A) 40 < 40
  · rw [if_neg (by omega), if_pos e]
  · rw [if_pos (by omega), if_neg e]
set_option maxRecDepth 8192 in
theorem x4_pInstance (hh : pm_hp h) (hR : ph_rep I h A) (w : pa_wf A) (x : Int32) : f_X4_problemOfInstance h x (pm I L r) = some (nI (pz_ins A x), pm I L r) := by
  unfold f_X4_problemOfInstance pz_ins
  simp only [pbs, pO_h hh, pR_h_1 hh, pA_h_1 hh, pS_h_1 hh, pR_h_2 hh, pA_h_2 hh, pS_h_2 hh, pR_h_3 hh, pA_h_3 hh, pS_h_3 hh, pR_h_4 hh, pA_h_4 hh, pS_h_4 hh, pR_h_5 hh, pA_h_5 hh, pS_h_5 hh, pR_h_6 hh, pA_h_6 hh, pS_h_6 hh, pR_h_7 hh, pA_h_7 hh, pS_h_7 hh, pR_h_8 hh, pA_h_8 hh, pS_h_8 hh, pR_h_9 hh, pA_h_9 hh, pS_h_9 hh, pR_h_10 hh, pA_h_10 hh, pS_h_10 hh, pI_h_0 hh, pP_h_0 hh, pI_h_11 hh, pP_h_11 hh, pI_h_12 hh, pP_h_12 hh, plit, nI_add, pk_mul, pn_le, pn_lt, if_true, if_false, reduceIte, x4_hasClass hh hR w, bIn, x4_pHolder hh hR w]
  cases pa_isC A x <;> rfl
set_option maxRecDepth 8192 in
theorem x4_pArray (hh : pm_hp h) (hR : ph_rep I h A) (w : pa_wf A) (x : Int32) : f_X4_problemOfArray h x (pm I L r) = some (nI (pz_arr A x), pm I L r) := by
  unfold f_X4_problemOfArray pz_arr
  simp only [pbs, pO_h hh, pR_h_1 hh, pA_h_1 hh, pS_h_1 hh, pR_h_2 hh, pA_h_2 hh, pS_h_2 hh, pR_h_3 hh, pA_h_3 hh, pS_h_3 hh, pR_h_4 hh, pA_h_4 hh, pS_h_4 hh, pR_h_5 hh, pA_h_5 hh, pS_h_5 hh, pR_h_6 hh, pA_h_6 hh, pS_h_6 hh, pR_h_7 hh, pA_h_7 hh, pS_h_7 hh, pR_h_8 hh, pA_h_8 hh, pS_h_8 hh, pR_h_9 hh, pA_h_9 hh, pS_h_9 hh, pR_h_10 hh, pA_h_10 hh, pS_h_10 hh, pI_h_0 hh, pP_h_0 hh, pI_h_11 hh, pP_h_11 hh, pI_h_12 hh, pP_h_12 hh, plit, nI_add, pk_mul, pn_le, pn_lt, if_true, if_false, reduceIte, x4_pHolder hh hR w, pn_rng (show 8 + 1 < 2 ^ 31 from by decide)]
  cases (pn_at (8 + 1) x).isSome <;> rfl
set_option maxRecDepth 8192 in
theorem x4_pClass (hh : pm_hp h) (hR : ph_rep I h A) (w : pa_wf A) (x y z : Int32) : f_X4_problemOfClass h x y z (pm I L r) = some (nI (pz_cls A x y z), pm I L r) := by
  have h10 := pa_cc10 w
  unfold f_X4_problemOfClass f_X4_problemOfClass_b33 pz_cls
  simp only [pbs, pO_h hh, pR_h_1 hh, pA_h_1 hh, pS_h_1 hh, pR_h_2 hh, pA_h_2 hh, pS_h_2 hh, pR_h_3 hh, pA_h_3 hh, pS_h_3 hh, pR_h_4 hh, pA_h_4 hh, pS_h_4 hh, pR_h_5 hh, pA_h_5 hh, pS_h_5 hh, pR_h_6 hh, pA_h_6 hh, pS_h_6 hh, pR_h_7 hh, pA_h_7 hh, pS_h_7 hh, pR_h_8 hh, pA_h_8 hh, pS_h_8 hh, pR_h_9 hh, pA_h_9 hh, pS_h_9 hh, pR_h_10 hh, pA_h_10 hh, pS_h_10 hh, pI_h_0 hh, pP_h_0 hh, pI_h_11 hh, pP_h_11 hh, pI_h_12 hh, pP_h_12 hh, plit, nI_add, pk_mul, pn_le, pn_lt, if_true, if_false, reduceIte, x4_hasClass hh hR w, bIn, pn_rng (show 3 + 1 < 2 ^ 31 from by decide), pn_rng (show 40 + 1 < 2 ^ 31 from by decide)]
  unfold pa_isC
  cases e : pn_at (A 40 0) x with
  | none => rfl
  | some c =>
    obtain ⟨hc, hx⟩ := pn_at_some (by omega) e
    subst hx
    have hr := (hR.2.2.1 c hc).2.1
    have h5 := pa_fo_le w hc
    cases e1 : pn_at (3 + 1) y with
    | none => rfl
    | some f =>
      obtain ⟨hf, hy⟩ := pn_at_some (by omega) e1
      subst hy
      cases e2 : pn_at (40 + 1) z with
      | none => rfl
      | some d =>
        simp (disch := omega) only [Option.isSome_some, Bool.true_eq_false, if_false, if_true, f_X4_problemOfClass_b34, pbs, pO_h hh, pR_h_1 hh, pA_h_1 hh, pS_h_1 hh, pR_h_2 hh, pA_h_2 hh, pS_h_2 hh, pR_h_3 hh, pA_h_3 hh, pS_h_3 hh, pR_h_4 hh, pA_h_4 hh, pS_h_4 hh, pR_h_5 hh, pA_h_5 hh, pS_h_5 hh, pR_h_6 hh, pA_h_6 hh, pS_h_6 hh, pR_h_7 hh, pA_h_7 hh, pS_h_7 hh, pR_h_8 hh, pA_h_8 hh, pS_h_8 hh, pR_h_9 hh, pA_h_9 hh, pS_h_9 hh, pR_h_10 hh, pA_h_10 hh, pS_h_10 hh, pI_h_0 hh, pP_h_0 hh, pI_h_11 hh, pP_h_11 hh, pI_h_12 hh, pP_h_12 hh, plit, nI_add, pk_mul, pn_le, pn_lt, if_true, if_false, reduceIte, hr, hR.1, pn_eq, show ¬ (1 : Nat) = 0 from by decide]
        by_cases e3 : pa_fo A c + f ≤ 5
        · rw [if_pos e3, if_pos e3]
          by_cases e4 : A 40 0 < 10
          · rw [if_pos e4, if_neg (by omega)]
          · rw [if_neg e4, if_pos (by omega)]
        · rw [if_neg e3, if_neg e3]
set_option maxRecDepth 8192 in
theorem x4_pTarget (hh : pm_hp h) (hR : ph_rep I h A) (w : pa_wf A) (x y z : Int32) : f_X4_problemOfTarget h x y z (pm I L r) = some (nI (pz_set A x y z), pm I L r) := by
  unfold f_X4_problemOfTarget f_X4_problemOfTarget_b26 f_X4_problemOfTarget_b22 f_X4_problemOfTarget_b27 pz_set
  simp only [pbs, pO_h hh, pR_h_1 hh, pA_h_1 hh, pS_h_1 hh, pR_h_2 hh, pA_h_2 hh, pS_h_2 hh, pR_h_3 hh, pA_h_3 hh, pS_h_3 hh, pR_h_4 hh, pA_h_4 hh, pS_h_4 hh, pR_h_5 hh, pA_h_5 hh, pS_h_5 hh, pR_h_6 hh, pA_h_6 hh, pS_h_6 hh, pR_h_7 hh, pA_h_7 hh, pS_h_7 hh, pR_h_8 hh, pA_h_8 hh, pS_h_8 hh, pR_h_9 hh, pA_h_9 hh, pS_h_9 hh, pR_h_10 hh, pA_h_10 hh, pS_h_10 hh, pI_h_0 hh, pP_h_0 hh, pI_h_11 hh, pP_h_11 hh, pI_h_12 hh, pP_h_12 hh, plit, nI_add, pk_mul, pn_le, pn_lt, if_true, if_false, reduceIte, x4_hasSlot hh hR w, x4_hasObject hh hR w, bIn]
  rw [if_neg (show ¬ nI 1 = nI 0 from by decide)]
  cases pa_isS A x y
  · simp
  · by_cases e : z = -nI 1
    · simp [e]
    · cases pa_isO A z <;> simp [e]
set_option maxRecDepth 8192 in
theorem x4_pLength (hh : pm_hp h) (hR : ph_rep I h A) (w : pa_wf A) (x y : Int32) : f_X4_problemOfLength h x y (pm I L r) = some (nI (pz_len A x y), pm I L r) := by
  unfold f_X4_problemOfLength pz_len
  simp (disch := decide) only [pbs, pO_h hh, pR_h_1 hh, pA_h_1 hh, pS_h_1 hh, pR_h_2 hh, pA_h_2 hh, pS_h_2 hh, pR_h_3 hh, pA_h_3 hh, pS_h_3 hh, pR_h_4 hh, pA_h_4 hh, pS_h_4 hh, pR_h_5 hh, pA_h_5 hh, pS_h_5 hh, pR_h_6 hh, pA_h_6 hh, pS_h_6 hh, pR_h_7 hh, pA_h_7 hh, pS_h_7 hh, pR_h_8 hh, pA_h_8 hh, pS_h_8 hh, pR_h_9 hh, pA_h_9 hh, pS_h_9 hh, pR_h_10 hh, pA_h_10 hh, pS_h_10 hh, pI_h_0 hh, pP_h_0 hh, pI_h_11 hh, pP_h_11 hh, pI_h_12 hh, pP_h_12 hh, plit, nI_add, pk_mul, pn_le, pn_lt, if_true, if_false, reduceIte, x4_hasObject hh hR w, x8_problemOf]
  unfold pa_isO
  cases e : pn_at 40 x with
  | none => rfl
  | some o =>
    obtain ⟨ho, hx⟩ := pn_at_some (by omega) e
    subst hx
    by_cases ha : A o 0 = 0
    · simp only [pa_al, ha, ne_eq, not_true, decide_false, pz_of, Bool.false_eq_true, if_false, if_true]
      rfl
    · have hg := ((hR.2.2.2 o ho).2 ha).1
      have hg2 := pa_gr w ho ha
      simp (disch := omega) only [pa_al, ha, ne_eq, not_false_eq_true, decide_true, pz_of, if_true, if_false, pbs, pO_h hh, pR_h_1 hh, pA_h_1 hh, pS_h_1 hh, pR_h_2 hh, pA_h_2 hh, pS_h_2 hh, pR_h_3 hh, pA_h_3 hh, pS_h_3 hh, pR_h_4 hh, pA_h_4 hh, pS_h_4 hh, pR_h_5 hh, pA_h_5 hh, pS_h_5 hh, pR_h_6 hh, pA_h_6 hh, pS_h_6 hh, pR_h_7 hh, pA_h_7 hh, pS_h_7 hh, pR_h_8 hh, pA_h_8 hh, pS_h_8 hh, pR_h_9 hh, pA_h_9 hh, pS_h_9 hh, pR_h_10 hh, pA_h_10 hh, pS_h_10 hh, pI_h_0 hh, pP_h_0 hh, pI_h_11 hh, pP_h_11 hh, pI_h_12 hh, pP_h_12 hh, plit, nI_add, pk_mul, pn_le, pn_lt, if_true, if_false, reduceIte, hg, pn_eq]
      cases (pn_at (8 + 1) y).isSome
      · rfl
      · by_cases e2 : A o 1 = 10
        · simp [e2]
        · simp [e2]
set_option maxRecDepth 8192 in
theorem x4_pRoot (hh : pm_hp h) (hR : ph_rep I h A) (w : pa_wf A) (x y : Int32) : f_X4_problemOfRoot h x y (pm I L r) = some (nI (pz_root A x y), pm I L r) := by
  unfold f_X4_problemOfRoot pz_root
  simp (disch := decide) only [pbs, pO_h hh, pR_h_1 hh, pA_h_1 hh, pS_h_1 hh, pR_h_2 hh, pA_h_2 hh, pS_h_2 hh, pR_h_3 hh, pA_h_3 hh, pS_h_3 hh, pR_h_4 hh, pA_h_4 hh, pS_h_4 hh, pR_h_5 hh, pA_h_5 hh, pS_h_5 hh, pR_h_6 hh, pA_h_6 hh, pS_h_6 hh, pR_h_7 hh, pA_h_7 hh, pS_h_7 hh, pR_h_8 hh, pA_h_8 hh, pS_h_8 hh, pR_h_9 hh, pA_h_9 hh, pS_h_9 hh, pR_h_10 hh, pA_h_10 hh, pS_h_10 hh, pI_h_0 hh, pP_h_0 hh, pI_h_11 hh, pP_h_11 hh, pI_h_12 hh, pP_h_12 hh, plit, nI_add, pk_mul, pn_le, pn_lt, if_true, if_false, reduceIte, x4_hasObject hh hR w, x8_problemOf]
set_option maxRecDepth 8192 in
theorem x4_pUnroot (hh : pm_hp h) (hR : ph_rep I h A) (w : pa_wf A) (x y : Int32) : f_X4_problemOfUnrooting h x y (pm I L r) = some (nI (pz_unr A x y), pm I L r) := by
  unfold f_X4_problemOfUnrooting pz_unr
  simp only [pbs, pO_h hh, pR_h_1 hh, pA_h_1 hh, pS_h_1 hh, pR_h_2 hh, pA_h_2 hh, pS_h_2 hh, pR_h_3 hh, pA_h_3 hh, pS_h_3 hh, pR_h_4 hh, pA_h_4 hh, pS_h_4 hh, pR_h_5 hh, pA_h_5 hh, pS_h_5 hh, pR_h_6 hh, pA_h_6 hh, pS_h_6 hh, pR_h_7 hh, pA_h_7 hh, pS_h_7 hh, pR_h_8 hh, pA_h_8 hh, pS_h_8 hh, pR_h_9 hh, pA_h_9 hh, pS_h_9 hh, pR_h_10 hh, pA_h_10 hh, pS_h_10 hh, pI_h_0 hh, pP_h_0 hh, pI_h_11 hh, pP_h_11 hh, pI_h_12 hh, pP_h_12 hh, plit, nI_add, pk_mul, pn_le, pn_lt, if_true, if_false, reduceIte, x4_pRoot hh hR w]
  unfold pz_root pa_isO
  cases e : pn_at 40 x with
  | none => rfl
  | some o =>
    obtain ⟨ho, hx⟩ := pn_at_some (by omega) e
    subst hx
    by_cases ha : A o 0 = 0
    · simp only [pa_al, ha, ne_eq, not_true, decide_false, pz_of, Bool.false_eq_true, if_false, if_true]
      rfl
    · have h4 := ((hR.2.2.2 o ho).2 ha).2.2.2.2.2.1
      have h7 : A o 4 ≤ 7 := (w.2.2.2.1 o ho ha).2.2.1
      simp (disch := omega) only [pa_al, ha, ne_eq, not_false_eq_true, decide_true, pz_of, if_true, if_false, pbs, pO_h hh, pR_h_1 hh, pA_h_1 hh, pS_h_1 hh, pR_h_2 hh, pA_h_2 hh, pS_h_2 hh, pR_h_3 hh, pA_h_3 hh, pS_h_3 hh, pR_h_4 hh, pA_h_4 hh, pS_h_4 hh, pR_h_5 hh, pA_h_5 hh, pS_h_5 hh, pR_h_6 hh, pA_h_6 hh, pS_h_6 hh, pR_h_7 hh, pA_h_7 hh, pS_h_7 hh, pR_h_8 hh, pA_h_8 hh, pS_h_8 hh, pR_h_9 hh, pA_h_9 hh, pS_h_9 hh, pR_h_10 hh, pA_h_10 hh, pS_h_10 hh, pI_h_0 hh, pP_h_0 hh, pI_h_11 hh, pP_h_11 hh, pI_h_12 hh, pP_h_12 hh, plit, nI_add, pk_mul, pn_le, pn_lt, if_true, if_false, reduceIte, h4]
      cases e2 : pn_at (2 + 1) y with
      | none => rfl
      | some k =>
        obtain ⟨hk, hy⟩ := pn_at_some (by omega) e2
        subst hy
        have hb := pk_bit h7 hk
        simp only [plit] at hb
        simp only [Option.isSome_some, if_true, plit, hb]
        have h2 : A o 4 / 2 ^ k % 2 < 2 := Nat.mod_lt _ (by decide)
        generalize A o 4 / 2 ^ k % 2 = b at h2 ⊢
        simp (disch := omega) only [pn_eq]
        by_cases eb : b = 1 <;> simp [eb]
set_option maxRecDepth 8192 in
theorem x4_target (hh : pm_hp h) (hR : ph_rep I h A) (w : pa_wf A) {o s : Nat} (ho : o < 40) (ha : A o 0 ≠ 0) (hs : s < 8) : f_X4_targetOf h (nI o) (nI s) (pm I L r) = some (mI (A o (5 + s)), pm I L r) := by
  have h8 := pa_sl8 w ho ha
  have hsl := ((hR.2.2.2 o ho).2 ha).2.2.2.2.2.2 s hs
  have hz := ((w.2.2.2.1 o ho ha).2.2.2 s hs).1
  unfold f_X4_targetOf
  simp only [pbs, pO_h hh, pR_h_1 hh, pA_h_1 hh, pS_h_1 hh, pR_h_2 hh, pA_h_2 hh, pS_h_2 hh, pR_h_3 hh, pA_h_3 hh, pS_h_3 hh, pR_h_4 hh, pA_h_4 hh, pS_h_4 hh, pR_h_5 hh, pA_h_5 hh, pS_h_5 hh, pR_h_6 hh, pA_h_6 hh, pS_h_6 hh, pR_h_7 hh, pA_h_7 hh, pS_h_7 hh, pR_h_8 hh, pA_h_8 hh, pS_h_8 hh, pR_h_9 hh, pA_h_9 hh, pS_h_9 hh, pR_h_10 hh, pA_h_10 hh, pS_h_10 hh, pI_h_0 hh, pP_h_0 hh, pI_h_11 hh, pP_h_11 hh, pI_h_12 hh, pP_h_12 hh, plit, nI_add, pk_mul, pn_le, pn_lt, if_true, if_false, reduceIte, x4_hasSlot hh hR w, bIn]
  rw [pa_isS_nI ho]
  by_cases e : s < A o 2
  · rw [pn_at_nI (by omega) e]
    simp (disch := omega) only [pa_al, ha, ne_eq, not_false_eq_true, decide_true, Option.isSome_some, Bool.and_self, Bool.true_eq_false, if_false, pbs, pO_h hh, pR_h_1 hh, pA_h_1 hh, pS_h_1 hh, pR_h_2 hh, pA_h_2 hh, pS_h_2 hh, pR_h_3 hh, pA_h_3 hh, pS_h_3 hh, pR_h_4 hh, pA_h_4 hh, pS_h_4 hh, pR_h_5 hh, pA_h_5 hh, pS_h_5 hh, pR_h_6 hh, pA_h_6 hh, pS_h_6 hh, pR_h_7 hh, pA_h_7 hh, pS_h_7 hh, pR_h_8 hh, pA_h_8 hh, pS_h_8 hh, pR_h_9 hh, pA_h_9 hh, pS_h_9 hh, pR_h_10 hh, pA_h_10 hh, pS_h_10 hh, pI_h_0 hh, pP_h_0 hh, pI_h_11 hh, pP_h_11 hh, pI_h_12 hh, pP_h_12 hh, plit, nI_add, pk_mul, pn_le, pn_lt, if_true, if_false, reduceIte, hsl]
  · have hn : (pn_at (A o 2) (nI s)).isSome = false := by
      cases e2 : pn_at (A o 2) (nI s) with
      | none => rfl
      | some j =>
        obtain ⟨h1, h2⟩ := pn_at_some (by omega) e2
        rw [nI_eq (by omega) (by omega)] at h2
        omega
    rw [hz (by omega), mI_0]
    simp only [hn, Bool.and_false, if_true]
set_option maxRecDepth 8192 in
theorem x4_cBelow (hh : pm_hp h) (hR : ph_rep I h A) (w : pa_wf A) {c : Nat} (hc : c < A 40 0) : f_X4_countBelow h (nI c) (pm I L r) = some (nI (fb_ct (fun j => decide (A 41 j = c + 1)) (A 40 0)), pm I L r) := by
  have h10 := pa_cc10 w
  unfold f_X4_countBelow
  have hl := pm_loop (fun n a i => f_X4_countBelow_b4 n h (nI c) a (nI i) (pm I L r)) (fun i a => a + nI (pb_b (decide (A 41 i = c + 1)))) (A 40 0) (out := fun a => some (a, pm I L r)) (by
    intro n a i hi
    have hr := (hR.2.2.1 i hi).1
    have hs := pa_sup w hi
    simp (disch := omega) only [f_X4_countBelow_b4, f_X4_countBelow_b28, pbs, pO_h hh, pR_h_1 hh, pA_h_1 hh, pS_h_1 hh, pR_h_2 hh, pA_h_2 hh, pS_h_2 hh, pR_h_3 hh, pA_h_3 hh, pS_h_3 hh, pR_h_4 hh, pA_h_4 hh, pS_h_4 hh, pR_h_5 hh, pA_h_5 hh, pS_h_5 hh, pR_h_6 hh, pA_h_6 hh, pS_h_6 hh, pR_h_7 hh, pA_h_7 hh, pS_h_7 hh, pR_h_8 hh, pA_h_8 hh, pS_h_8 hh, pR_h_9 hh, pA_h_9 hh, pS_h_9 hh, pR_h_10 hh, pA_h_10 hh, pS_h_10 hh, pI_h_0 hh, pP_h_0 hh, pI_h_11 hh, pP_h_11 hh, pI_h_12 hh, pP_h_12 hh, plit, nI_add, pk_mul, pn_le, pn_lt, if_true, if_false, reduceIte, hR.1, hr, mI_nI]
    rw [if_neg (show ¬ A 40 0 ≤ i from by omega)]
    by_cases e : A 41 i = c + 1
    · simp [e, pb_b]
    · simp [e, pb_b]) (by
    intro n a
    simp (disch := omega) only [f_X4_countBelow_b4, pbs, pO_h hh, pR_h_1 hh, pA_h_1 hh, pS_h_1 hh, pR_h_2 hh, pA_h_2 hh, pS_h_2 hh, pR_h_3 hh, pA_h_3 hh, pS_h_3 hh, pR_h_4 hh, pA_h_4 hh, pS_h_4 hh, pR_h_5 hh, pA_h_5 hh, pS_h_5 hh, pR_h_6 hh, pA_h_6 hh, pS_h_6 hh, pR_h_7 hh, pA_h_7 hh, pS_h_7 hh, pR_h_8 hh, pA_h_8 hh, pS_h_8 hh, pR_h_9 hh, pA_h_9 hh, pS_h_9 hh, pR_h_10 hh, pA_h_10 hh, pS_h_10 hh, pI_h_0 hh, pP_h_0 hh, pI_h_11 hh, pP_h_11 hh, pI_h_12 hh, pP_h_12 hh, plit, nI_add, pk_mul, pn_le, pn_lt, if_true, if_false, reduceIte, hR.1, Nat.le_refl]) (nI 0) hb_FU (Nat.lt_of_le_of_lt h10 (by decide))
  refine hl.trans ?_
  rw [pm_fold_sum, Nat.zero_add, pc_ct]
def pa_cf (A : Nat → Nat → Nat) (c k : Nat) : Int32 := if k = 0 then mI (A 41 c) else if k = 1 then nI (pa_fo A c) else if k = 2 then nI (pa_sc A c) else nI (fb_ct (fun j => decide (A 41 j = c + 1)) (A 40 0))
set_option maxRecDepth 8192 in
theorem x4_classFact (hh : pm_hp h) (hR : ph_rep I h A) (w : pa_wf A) {c k : Nat} (hc : c < A 40 0) (hk : k < 4) : f_X4_classFact h (nI c) (nI k) (pm I L r) = some (pa_cf A c k, pm I L r) := by
  have h10 := pa_cc10 w
  obtain ⟨r1, r2, r3⟩ := hR.2.2.1 c hc
  unfold f_X4_classFact pa_cf
  simp (disch := omega) only [pbs, pO_h hh, pR_h_1 hh, pA_h_1 hh, pS_h_1 hh, pR_h_2 hh, pA_h_2 hh, pS_h_2 hh, pR_h_3 hh, pA_h_3 hh, pS_h_3 hh, pR_h_4 hh, pA_h_4 hh, pS_h_4 hh, pR_h_5 hh, pA_h_5 hh, pS_h_5 hh, pR_h_6 hh, pA_h_6 hh, pS_h_6 hh, pR_h_7 hh, pA_h_7 hh, pS_h_7 hh, pR_h_8 hh, pA_h_8 hh, pS_h_8 hh, pR_h_9 hh, pA_h_9 hh, pS_h_9 hh, pR_h_10 hh, pA_h_10 hh, pS_h_10 hh, pI_h_0 hh, pP_h_0 hh, pI_h_11 hh, pP_h_11 hh, pI_h_12 hh, pP_h_12 hh, plit, nI_add, pk_mul, pn_le, pn_lt, if_true, if_false, reduceIte, pn_eq, r1, r2, x4_sizeOfInstance hh hR w hc, x4_cBelow hh hR w hc]
  split
  · rfl
  · split
    · rfl
    · split <;> rfl
def pa_of (A : Nat → Nat → Nat) (o k : Nat) : Nat := if k = 0 then A o 1 else if k = 1 then A o 0 else if k = 2 then pa_so A o else if k = 3 then A o 3 else if k = 4 then A o 2 else A o 4
set_option maxRecDepth 8192 in
theorem x4_objectFact (hh : pm_hp h) (hR : ph_rep I h A) {o k : Nat} (ho : o < 40) (ha : A o 0 ≠ 0) (hk : k < 10) : f_X4_objectFact h (nI o) (nI k) (pm I L r) = some (nI (pa_of A o k), pm I L r) := by
  obtain ⟨s4, s5, s6, s7, s8, s9, s10⟩ := (hR.2.2.2 o ho).2 ha
  unfold f_X4_objectFact pa_of
  simp (disch := omega) only [pbs, pO_h hh, pR_h_1 hh, pA_h_1 hh, pS_h_1 hh, pR_h_2 hh, pA_h_2 hh, pS_h_2 hh, pR_h_3 hh, pA_h_3 hh, pS_h_3 hh, pR_h_4 hh, pA_h_4 hh, pS_h_4 hh, pR_h_5 hh, pA_h_5 hh, pS_h_5 hh, pR_h_6 hh, pA_h_6 hh, pS_h_6 hh, pR_h_7 hh, pA_h_7 hh, pS_h_7 hh, pR_h_8 hh, pA_h_8 hh, pS_h_8 hh, pR_h_9 hh, pA_h_9 hh, pS_h_9 hh, pR_h_10 hh, pA_h_10 hh, pS_h_10 hh, pI_h_0 hh, pP_h_0 hh, pI_h_11 hh, pP_h_11 hh, pI_h_12 hh, pP_h_12 hh, plit, nI_add, pk_mul, pn_le, pn_lt, if_true, if_false, reduceIte, pn_eq, s4, s5, s6, s7, s8, s9]
  split
  · rfl
  · split
    · rfl
    · split
      · rfl
      · split
        · rfl
        · split <;> rfl
set_option maxRecDepth 8192 in
theorem hp_dis {g : Nat} (hh : pm_hp h) (hg : pm_hp g) (ne : h ≠ g) : h + 10 < g ∨ g + 10 < h := by
  unfold pm_hp at hh hg
  omega
set_option maxRecDepth 8192 in
theorem pm_copy {a b n : Nat} (h1 : pm_Λ[a]? = some (0, n)) (h2 : pm_Λ[b]? = some (0, n)) (hn : n < 2 ^ 31) : hb_copy (pm I L r) a (nI 0) b (nI 0) (nI n) = some (pm (prow I b n (I a)) L r) := by
  unfold hb_copy
  rw [show (pm I L r).1[a]? = some (0, n) from h1, show (pm I L r).1[b]? = some (0, n) from h2]
  simp only [nI_clamp hn, nI_clamp (show 0 < 2 ^ 31 from by decide)]
  rw [if_neg (by
    rintro (h | h | h | h | h)
    · exact nI_pos (by decide) h
    · exact nI_pos (by decide) h
    · exact nI_pos hn h
    · omega
    · omega)]
  congr 1
  show (pm_Λ, _, L, pm_R r) = (pm_Λ, _, L, pm_R r)
  congr 2
  funext c j
  unfold va_up prow va_cpy
  by_cases e : c = b
  · subst e
    by_cases e2 : j < n
    · simp [e2, pm]
    · simp [e2, pm]
  · simp [e, pm]
end X4C
