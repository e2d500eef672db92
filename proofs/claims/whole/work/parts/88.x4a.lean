/-! the class's heap: what it answers -/
def ph_rep (I : Nat → Nat → Int32) (h : Nat) (A : Nat → Nat → Nat) : Prop := I h 0 = nI (A 40 0) ∧ I h 11 = nI (A 40 1) ∧ (∀ c, c < A 40 0 → I (h + 1) c = mI (A 41 c) ∧ I (h + 2) c = nI (pa_fo A c) ∧ I (h + 3) c = nI (pa_da A c)) ∧ ∀ o, o < 40 → (A o 0 = 0 → I (h + 4) o = -nI 1) ∧ (A o 0 ≠ 0 → I (h + 4) o = nI (A o 1) ∧ I (h + 5) o = nI (A o 0) ∧ I (h + 6) o = nI (pa_so A o) ∧ I (h + 7) o = nI (A o 2) ∧ I (h + 8) o = nI (A o 3) ∧ I (h + 9) o = nI (A o 4) ∧ ∀ s, s < 8 → I (h + 10) (o * 8 + s) = mI (A o (5 + s)))
def pp_at (p : Nat → Bool) (x : Int32) : Bool := match pn_at 40 x with
  | some o => p o
  | none => false
set_option maxRecDepth 8192 in
theorem pp_at_nI {p : Nat → Bool} {o : Nat} (h : o < 40) : pp_at p (nI o) = p o := by
  unfold pp_at
  rw [pn_at_nI (by decide) h]
set_option maxRecDepth 8192 in
theorem pn_none {n : Nat} {x : Int32} (hn : n < 2 ^ 31) (h : pn_at n x = none) : x < nI 0 ∨ (¬ x < nI 0 ∧ nI n ≤ x) := by
  rcases pn_at_none h with h1 | h1
  · exact Or.inl h1
  · by_cases h2 : x < nI 0
    · exact Or.inl h2
    · exact Or.inr ⟨h2, h1⟩
set_option maxRecDepth 8192 in
theorem x8_member {x : Int32} {σ : hb_M} : f_X8_member x σ = some (hb_mk (pq1 x), σ) := by
  unfold f_X8_member
  simp only [plit]
  cases e : pn_at 40 x with
  | none =>
    have h0 : hb_mk (pq1 x) = 0 := pb_zero.mpr (fun j hj => by
      unfold pq1
      apply decide_eq_false
      intro h
      rw [← h, pn_at_nI (by decide) hj] at e
      cases e)
    rw [h0]
    rcases pn_none (by decide) e with h | ⟨h, h1⟩
    · rw [if_pos h]
    · rw [if_neg h, if_pos h1]
  | some o =>
    obtain ⟨ho, hx⟩ := pn_at_some (by decide) e
    subst hx
    simp (disch := omega) only [pn_lt0, if_false, pn_le]
    rw [if_neg (by omega)]
    congr 2
    refine (pb_one ho).trans (pb_congr (fun j hj => ?_))
    unfold pq1
    simp (disch := omega) only [pn_eq]
set_option maxRecDepth 8192 in
theorem pq1_nI {o j : Nat} (ho : o < 40) (hj : j < 40) : pq1 (nI o) j = decide (j = o) := by
  unfold pq1
  simp (disch := omega) only [pn_eq]
set_option maxRecDepth 8192 in
theorem x8_memberN {o : Nat} (ho : o < 40) {σ : hb_M} : f_X8_member (nI o) σ = some (hb_mk (fun j => decide (j = o)), σ) := by
  rw [x8_member]
  congr 2
  exact pb_congr (fun j hj => pq1_nI ho hj)
set_option maxRecDepth 8192 in
theorem x8_contains {p : Nat → Bool} {x : Int32} {σ : hb_M} : f_X8_contains (hb_mk p) x σ = some (bI (pp_at p x), σ) := by
  unfold f_X8_contains pp_at
  simp only [plit]
  cases e : pn_at 40 x with
  | none =>
    rcases pn_none (by decide) e with h | ⟨h, h1⟩
    · rw [if_pos h]; rfl
    · rw [if_neg h, if_pos h1]; rfl
  | some o =>
    obtain ⟨ho, hx⟩ := pn_at_some (by decide) e
    subst hx
    simp (disch := omega) only [pn_lt0, if_false, pn_le]
    rw [if_neg (by omega), show (1 : Int64) = lN 1 from rfl]
    have := pb_cU (p := p) ho
    rw [show (1 : Int64) = lN 1 from rfl] at this
    rw [this]
    simp only [pb_cmp0]
    cases p o
    · rw [if_neg (by decide)]; rfl
    · rw [if_pos (by decide)]; rfl
set_option maxRecDepth 8192 in
theorem x8_containsN {p : Nat → Bool} {o : Nat} (ho : o < 40) {σ : hb_M} : f_X8_contains (hb_mk p) (nI o) σ = some (bI (p o), σ) := by
  rw [x8_contains, pp_at_nI ho]
set_option maxRecDepth 8192 in
theorem x4_roundedUp {n : Nat} (h : n < 100000) {σ : hb_M} : f_X4_roundedUp (nI n) σ = some (nI (pa_ru n), σ) := by
  unfold f_X4_roundedUp pa_ru
  simp (disch := omega) only [plit, nI_add, pk_div, pk_mul]
section X4A
variable {I : Nat → Nat → Int32} {L : Nat → Nat → Int64} {r : Nat → Option Nat} {A : Nat → Nat → Nat} {h : Nat}
set_option maxRecDepth 8192 in
theorem x4_hasClass (hh : pm_hp h) (hR : ph_rep I h A) (w : pa_wf A) (x : Int32) : f_X4_hasClass h x (pm I L r) = some (bI (pa_isC A x), pm I L r) := by
  have h10 := pa_cc10 w
  unfold f_X4_hasClass pa_isC
  simp only [plit, pbs, pO_h hh, pR_h_1 hh, pA_h_1 hh, pS_h_1 hh, pR_h_2 hh, pA_h_2 hh, pS_h_2 hh, pR_h_3 hh, pA_h_3 hh, pS_h_3 hh, pR_h_4 hh, pA_h_4 hh, pS_h_4 hh, pR_h_5 hh, pA_h_5 hh, pS_h_5 hh, pR_h_6 hh, pA_h_6 hh, pS_h_6 hh, pR_h_7 hh, pA_h_7 hh, pS_h_7 hh, pR_h_8 hh, pA_h_8 hh, pS_h_8 hh, pR_h_9 hh, pA_h_9 hh, pS_h_9 hh, pR_h_10 hh, pA_h_10 hh, pS_h_10 hh, pI_h_0 hh, pP_h_0 hh, pI_h_11 hh, pP_h_11 hh, pI_h_12 hh, pP_h_12 hh, plit, nI_add, pk_mul, pn_le, pn_lt, if_true, if_false, reduceIte, hR.1]
  cases e : pn_at (A 40 0) x with
  | none =>
    rcases pn_none (by omega) e with h | ⟨h, h1⟩
    · rw [if_pos h]; rfl
    · rw [if_neg h, if_pos h1]; rfl
  | some o =>
    obtain ⟨ho, hx⟩ := pn_at_some (by omega) e
    subst hx
    simp (disch := omega) only [pn_lt0, if_false, pn_le]
    rw [if_neg (by omega)]
    rfl
set_option maxRecDepth 8192 in
theorem x4_grp (hR : ph_rep I h A) (w : pa_wf A) {o : Nat} (ho : o < 40) : (I (h + 4) o = -nI 1) = (A o 0 = 0) := by
  obtain ⟨h1, h2⟩ := hR.2.2.2 o ho
  by_cases e : A o 0 = 0
  · rw [h1 e]; simp [e]
  · have := pa_gr w ho e
    rw [(h2 e).1, nI_m1 (by omega)]; simp [e]
set_option maxRecDepth 8192 in
theorem x4_hasObject (hh : pm_hp h) (hR : ph_rep I h A) (w : pa_wf A) (x : Int32) : f_X4_hasObject h x (pm I L r) = some (bI (pa_isO A x), pm I L r) := by
  unfold f_X4_hasObject pa_isO
  simp only [plit]
  cases e : pn_at 40 x with
  | none =>
    rcases pn_none (by decide) e with h | ⟨h, h1⟩
    · rw [if_pos h]; rfl
    · rw [if_neg h, if_pos h1]; rfl
  | some o =>
    obtain ⟨ho, hx⟩ := pn_at_some (by decide) e
    subst hx
    simp (disch := omega) only [pn_lt0, pbs, pO_h hh, pR_h_1 hh, pA_h_1 hh, pS_h_1 hh, pR_h_2 hh, pA_h_2 hh, pS_h_2 hh, pR_h_3 hh, pA_h_3 hh, pS_h_3 hh, pR_h_4 hh, pA_h_4 hh, pS_h_4 hh, pR_h_5 hh, pA_h_5 hh, pS_h_5 hh, pR_h_6 hh, pA_h_6 hh, pS_h_6 hh, pR_h_7 hh, pA_h_7 hh, pS_h_7 hh, pR_h_8 hh, pA_h_8 hh, pS_h_8 hh, pR_h_9 hh, pA_h_9 hh, pS_h_9 hh, pR_h_10 hh, pA_h_10 hh, pS_h_10 hh, pI_h_0 hh, pP_h_0 hh, pI_h_11 hh, pP_h_11 hh, pI_h_12 hh, pP_h_12 hh, plit, nI_add, pk_mul, pn_le, pn_lt, if_true, if_false, reduceIte, x4_grp hR w ho]
    rw [if_neg (show ¬ 40 ≤ o from by omega)]
    unfold pa_al
    by_cases e : A o 0 = 0
    · simp [e, bI_f]
    · simp [e, bI_t]
set_option maxRecDepth 8192 in
theorem x4_hasObj (hh : pm_hp h) (hR : ph_rep I h A) (w : pa_wf A) {o : Nat} (ho : o < 40) : f_X4_hasObject h (nI o) (pm I L r) = some (bI (pa_al A o), pm I L r) := by
  rw [x4_hasObject hh hR w, pa_isO_nI ho]
set_option maxRecDepth 8192 in
theorem x4_hasSlot (hh : pm_hp h) (hR : ph_rep I h A) (w : pa_wf A) (x y : Int32) : f_X4_hasSlot h x y (pm I L r) = some (bI (pa_isS A x y), pm I L r) := by
  unfold f_X4_hasSlot
  simp only [pbs, pO_h hh, pR_h_1 hh, pA_h_1 hh, pS_h_1 hh, pR_h_2 hh, pA_h_2 hh, pS_h_2 hh, pR_h_3 hh, pA_h_3 hh, pS_h_3 hh, pR_h_4 hh, pA_h_4 hh, pS_h_4 hh, pR_h_5 hh, pA_h_5 hh, pS_h_5 hh, pR_h_6 hh, pA_h_6 hh, pS_h_6 hh, pR_h_7 hh, pA_h_7 hh, pS_h_7 hh, pR_h_8 hh, pA_h_8 hh, pS_h_8 hh, pR_h_9 hh, pA_h_9 hh, pS_h_9 hh, pR_h_10 hh, pA_h_10 hh, pS_h_10 hh, pI_h_0 hh, pP_h_0 hh, pI_h_11 hh, pP_h_11 hh, pI_h_12 hh, pP_h_12 hh, plit, nI_add, pk_mul, pn_le, pn_lt, if_true, if_false, reduceIte, x4_hasObject hh hR w]
  unfold pa_isO pa_isS
  cases e : pn_at 40 x with
  | none => simp only [bI_f, if_true]
  | some o =>
    obtain ⟨ho, hx⟩ := pn_at_some (by decide) e
    subst hx
    by_cases ha : A o 0 = 0
    · simp [pa_al, ha, bI_f]
    · have h8 := pa_sl8 w ho ha
      have h0 := ((hR.2.2.2 o ho).2 ha).2.2.2.1
      simp only [pa_al, ha, ne_eq, not_false_eq_true, decide_true, bIn, Bool.true_eq_false, if_false, Bool.true_and]
      simp (disch := omega) only [pbs, pO_h hh, pR_h_1 hh, pA_h_1 hh, pS_h_1 hh, pR_h_2 hh, pA_h_2 hh, pS_h_2 hh, pR_h_3 hh, pA_h_3 hh, pS_h_3 hh, pR_h_4 hh, pA_h_4 hh, pS_h_4 hh, pR_h_5 hh, pA_h_5 hh, pS_h_5 hh, pR_h_6 hh, pA_h_6 hh, pS_h_6 hh, pR_h_7 hh, pA_h_7 hh, pS_h_7 hh, pR_h_8 hh, pA_h_8 hh, pS_h_8 hh, pR_h_9 hh, pA_h_9 hh, pS_h_9 hh, pR_h_10 hh, pA_h_10 hh, pS_h_10 hh, pI_h_0 hh, pP_h_0 hh, pI_h_11 hh, pP_h_11 hh, pI_h_12 hh, pP_h_12 hh, plit, nI_add, pk_mul, pn_le, pn_lt, if_true, if_false, reduceIte, h0]
      cases e2 : pn_at (A o 2) y with
      | none =>
        rcases pn_none (by omega) e2 with h | ⟨h, h1⟩
        · rw [if_pos h]; rfl
        · rw [if_neg h, if_pos h1]; rfl
      | some s =>
        obtain ⟨hs, hx⟩ := pn_at_some (by omega) e2
        subst hx
        simp (disch := omega) only [pn_lt0, if_false, pn_le]
        rw [if_neg (by omega)]
        rfl
set_option maxRecDepth 8192 in
theorem x4_allObjects (hh : pm_hp h) (hR : ph_rep I h A) (w : pa_wf A) : f_X4_allObjects h (pm I L r) = some (hb_mk (pa_al A), pm I L r) := by
  unfold f_X4_allObjects
  have hl := pm_loop (fun n a i => f_X4_allObjects_b4 n h a (nI i) (pm I L r)) (fun i a => a ||| (if pa_al A i = true then hb_mk (fun j => decide (j = i)) else 0)) 40 (out := fun a => some (a, pm I L r)) (by
    intro n a i hi
    simp (disch := omega) only [f_X4_allObjects_b4, f_X4_allObjects_b29, pbs, pO_h hh, pR_h_1 hh, pA_h_1 hh, pS_h_1 hh, pR_h_2 hh, pA_h_2 hh, pS_h_2 hh, pR_h_3 hh, pA_h_3 hh, pS_h_3 hh, pR_h_4 hh, pA_h_4 hh, pS_h_4 hh, pR_h_5 hh, pA_h_5 hh, pS_h_5 hh, pR_h_6 hh, pA_h_6 hh, pS_h_6 hh, pR_h_7 hh, pA_h_7 hh, pS_h_7 hh, pR_h_8 hh, pA_h_8 hh, pS_h_8 hh, pR_h_9 hh, pA_h_9 hh, pS_h_9 hh, pR_h_10 hh, pA_h_10 hh, pS_h_10 hh, pI_h_0 hh, pP_h_0 hh, pI_h_11 hh, pP_h_11 hh, pI_h_12 hh, pP_h_12 hh, plit, nI_add, pk_mul, pn_le, pn_lt, if_true, if_false, reduceIte, x4_grp hR w hi, x8_memberN hi]
    rw [if_neg (by omega)]
    by_cases e : A i 0 = 0
    · simp [e, pa_al]
    · simp [e, pa_al]) (by
    intro n a
    rw [f_X4_allObjects_b4, if_pos (by decide)]) 0 hb_FU (by decide)
  refine hl.trans ?_
  rw [pm_fold_set]
set_option maxRecDepth 8192 in
theorem x4_objectCount (hh : pm_hp h) (hR : ph_rep I h A) (w : pa_wf A) : f_X4_objectCount h (pm I L r) = some (nI (fb_ct (pa_al A) 40), pm I L r) := by
  unfold f_X4_objectCount
  simp only [pbs, pO_h hh, pR_h_1 hh, pA_h_1 hh, pS_h_1 hh, pR_h_2 hh, pA_h_2 hh, pS_h_2 hh, pR_h_3 hh, pA_h_3 hh, pS_h_3 hh, pR_h_4 hh, pA_h_4 hh, pS_h_4 hh, pR_h_5 hh, pA_h_5 hh, pS_h_5 hh, pR_h_6 hh, pA_h_6 hh, pS_h_6 hh, pR_h_7 hh, pA_h_7 hh, pS_h_7 hh, pR_h_8 hh, pA_h_8 hh, pS_h_8 hh, pR_h_9 hh, pA_h_9 hh, pS_h_9 hh, pR_h_10 hh, pA_h_10 hh, pS_h_10 hh, pI_h_0 hh, pP_h_0 hh, pI_h_11 hh, pP_h_11 hh, pI_h_12 hh, pP_h_12 hh, plit, nI_add, pk_mul, pn_le, pn_lt, if_true, if_false, reduceIte, x4_allObjects hh hR w, pc_bitCount]
set_option maxRecDepth 8192 in
theorem x4_allRoots (hh : pm_hp h) (hR : ph_rep I h A) (w : pa_wf A) : f_X4_allRoots h (pm I L r) = some (hb_mk (pa_r A), pm I L r) := by
  unfold f_X4_allRoots
  have hl := pm_loop (fun n a i => f_X4_allRoots_b4 n h a (nI i) (pm I L r)) (fun i a => a ||| (if pa_r A i = true then hb_mk (fun j => decide (j = i)) else 0)) 40 (out := fun a => some (a, pm I L r)) (by
    intro n a i hi
    by_cases e : A i 0 = 0
    · simp (disch := omega) only [f_X4_allRoots_b4, f_X4_allRoots_b37, f_X4_allRoots_b38, pbs, pO_h hh, pR_h_1 hh, pA_h_1 hh, pS_h_1 hh, pR_h_2 hh, pA_h_2 hh, pS_h_2 hh, pR_h_3 hh, pA_h_3 hh, pS_h_3 hh, pR_h_4 hh, pA_h_4 hh, pS_h_4 hh, pR_h_5 hh, pA_h_5 hh, pS_h_5 hh, pR_h_6 hh, pA_h_6 hh, pS_h_6 hh, pR_h_7 hh, pA_h_7 hh, pS_h_7 hh, pR_h_8 hh, pA_h_8 hh, pS_h_8 hh, pR_h_9 hh, pA_h_9 hh, pS_h_9 hh, pR_h_10 hh, pA_h_10 hh, pS_h_10 hh, pI_h_0 hh, pP_h_0 hh, pI_h_11 hh, pP_h_11 hh, pI_h_12 hh, pP_h_12 hh, plit, nI_add, pk_mul, pn_le, pn_lt, if_true, if_false, reduceIte, x4_grp hR w hi, e]
      rw [if_neg (by omega)]
      simp [pa_r, e, pa_al]
    · have h9 := ((hR.2.2.2 i hi).2 e).2.2.2.2.2.1
      have h7 : A i 4 ≤ 7 := (w.2.2.2.1 i hi e).2.2.1
      simp (disch := omega) only [f_X4_allRoots_b4, f_X4_allRoots_b37, f_X4_allRoots_b38, pbs, pO_h hh, pR_h_1 hh, pA_h_1 hh, pS_h_1 hh, pR_h_2 hh, pA_h_2 hh, pS_h_2 hh, pR_h_3 hh, pA_h_3 hh, pS_h_3 hh, pR_h_4 hh, pA_h_4 hh, pS_h_4 hh, pR_h_5 hh, pA_h_5 hh, pS_h_5 hh, pR_h_6 hh, pA_h_6 hh, pS_h_6 hh, pR_h_7 hh, pA_h_7 hh, pS_h_7 hh, pR_h_8 hh, pA_h_8 hh, pS_h_8 hh, pR_h_9 hh, pA_h_9 hh, pS_h_9 hh, pR_h_10 hh, pA_h_10 hh, pS_h_10 hh, pI_h_0 hh, pP_h_0 hh, pI_h_11 hh, pP_h_11 hh, pI_h_12 hh, pP_h_12 hh, plit, nI_add, pk_mul, pn_le, pn_lt, if_true, if_false, reduceIte, x4_grp hR w hi, e, x8_memberN hi, h9, pn_eq]
      rw [if_neg (by omega)]
      by_cases e2 : A i 4 = 0
      · simp [pa_r, e, pa_al, e2]
      · simp [pa_r, e, pa_al, e2]) (by
    intro n a
    rw [f_X4_allRoots_b4, if_pos (by decide)]) 0 hb_FU (by decide)
  refine hl.trans ?_
  rw [pm_fold_set]
set_option maxRecDepth 8192 in
theorem x4_sizeOfAll (hh : pm_hp h) (hR : ph_rep I h A) (p : Nat → Bool) (hp : ∀ o, o < 40 → p o = true → A o 0 ≠ 0) : f_X4_sizeOfAll h (hb_mk p) (pm I L r) = some (nI (fb_sm (fun o => if p o then pa_so A o else 0) 40), pm I L r) := by
  unfold f_X4_sizeOfAll
  have hl := pm_loop (fun n a i => f_X4_sizeOfAll_b5 n h (hb_mk p) a (nI i) (pm I L r)) (fun i a => a + nI (if p i then pa_so A i else 0)) 40 (out := fun a => some (a, pm I L r)) (by
    intro n a i hi
    simp (disch := omega) only [f_X4_sizeOfAll_b5, f_X4_sizeOfAll_b33, pbs, pO_h hh, pR_h_1 hh, pA_h_1 hh, pS_h_1 hh, pR_h_2 hh, pA_h_2 hh, pS_h_2 hh, pR_h_3 hh, pA_h_3 hh, pS_h_3 hh, pR_h_4 hh, pA_h_4 hh, pS_h_4 hh, pR_h_5 hh, pA_h_5 hh, pS_h_5 hh, pR_h_6 hh, pA_h_6 hh, pS_h_6 hh, pR_h_7 hh, pA_h_7 hh, pS_h_7 hh, pR_h_8 hh, pA_h_8 hh, pS_h_8 hh, pR_h_9 hh, pA_h_9 hh, pS_h_9 hh, pR_h_10 hh, pA_h_10 hh, pS_h_10 hh, pI_h_0 hh, pP_h_0 hh, pI_h_11 hh, pP_h_11 hh, pI_h_12 hh, pP_h_12 hh, plit, nI_add, pk_mul, pn_le, pn_lt, if_true, if_false, reduceIte, x8_containsN hi, bIn]
    rw [if_neg (by omega)]
    by_cases e : p i = true
    · have hs := ((hR.2.2.2 i hi).2 (hp i hi e)).2.2.1
      simp [e, hs]
    · have e2 : p i = false := by cases q : p i <;> simp_all
      simp [e2]) (by
    intro n a
    rw [f_X4_sizeOfAll_b5, if_pos (by decide)]) (nI 0) hb_FU (by decide)
  refine hl.trans ?_
  rw [pm_fold_sum, Nat.zero_add]
set_option maxRecDepth 8192 in
theorem x4_sizeOfInstance (hh : pm_hp h) (hR : ph_rep I h A) (w : pa_wf A) {c : Nat} (hc : c < A 40 0) : f_X4_sizeOfInstance h (nI c) (pm I L r) = some (nI (pa_sc A c), pm I L r) := by
  have h10 := pa_cc10 w
  have h5 := pa_fo_le w hc
  have h4 := pa_da_le w hc
  have hr := hR.2.2.1 c hc
  unfold f_X4_sizeOfInstance
  simp (disch := omega) only [pbs, pO_h hh, pR_h_1 hh, pA_h_1 hh, pS_h_1 hh, pR_h_2 hh, pA_h_2 hh, pS_h_2 hh, pR_h_3 hh, pA_h_3 hh, pS_h_3 hh, pR_h_4 hh, pA_h_4 hh, pS_h_4 hh, pR_h_5 hh, pA_h_5 hh, pS_h_5 hh, pR_h_6 hh, pA_h_6 hh, pS_h_6 hh, pR_h_7 hh, pA_h_7 hh, pS_h_7 hh, pR_h_8 hh, pA_h_8 hh, pS_h_8 hh, pR_h_9 hh, pA_h_9 hh, pS_h_9 hh, pR_h_10 hh, pA_h_10 hh, pS_h_10 hh, pI_h_0 hh, pP_h_0 hh, pI_h_11 hh, pP_h_11 hh, pI_h_12 hh, pP_h_12 hh, plit, nI_add, pk_mul, pn_le, pn_lt, if_true, if_false, reduceIte, hr.2.1, hr.2.2, x4_roundedUp]
  rfl
set_option maxRecDepth 8192 in
theorem x4_sizeOfArray {n : Nat} (hn : n ≤ 8) {σ : hb_M} : f_X4_sizeOfArray (nI n) σ = some (nI (pa_ru (16 + 4 * n)), σ) := by
  unfold f_X4_sizeOfArray
  simp (disch := omega) only [pbs, plit, nI_add, pk_mul, x4_roundedUp]
set_option maxRecDepth 8192 in
theorem pa_bl_fuel (w : pa_wf A) (t : Nat) : ∀ n m k, k ≤ A 40 0 → k < n → k < m → pa_bl A n k t = pa_bl A m k t := by
  intro n
  induction n with
  | zero => intro m k _ h; omega
  | succ n ih =>
    intro m k hk hn hm
    obtain ⟨m, rfl⟩ : ∃ j, m = j + 1 := ⟨m - 1, by omega⟩
    cases k with
    | zero => rfl
    | succ c =>
      have := pa_sup w (c := c) (by omega)
      show (decide (c = t) || pa_bl A n (A 41 c) t) = (decide (c = t) || pa_bl A m (A 41 c) t)
      rw [ih m (A 41 c) (by omega) (by omega) (by omega)]
def pa_below (A : Nat → Nat → Nat) (c t : Nat) : Bool := decide (c < A 40 0) && pa_bl A 11 (c + 1) t
set_option maxRecDepth 8192 in
theorem x4_isBelow (hh : pm_hp h) (hR : ph_rep I h A) (w : pa_wf A) {c t : Nat} (hc : c < 100) (ht : t < 100) : f_X4_isBelow h (nI c) (nI t) (pm I L r) = some (bI (pa_below A c t), pm I L r) := by
  have h10 := pa_cc10 w
  have key : ∀ n i k, i + k ≤ 10 → 10 - i < n → k ≤ A 40 0 → f_X4_isBelow_b5 n h (nI t) (mI k) (nI i) (pm I L r) = some (bI (pa_bl A 11 k t), pm I L r) := by
    intro n
    induction n with
    | zero => intro i k _ h; omega
    | succ n ih =>
      intro i k hik hn hk
      rw [f_X4_isBelow_b5]
      cases k with
      | zero =>
        simp (disch := omega) only [pbs, pO_h hh, pR_h_1 hh, pA_h_1 hh, pS_h_1 hh, pR_h_2 hh, pA_h_2 hh, pS_h_2 hh, pR_h_3 hh, pA_h_3 hh, pS_h_3 hh, pR_h_4 hh, pA_h_4 hh, pS_h_4 hh, pR_h_5 hh, pA_h_5 hh, pS_h_5 hh, pR_h_6 hh, pA_h_6 hh, pS_h_6 hh, pR_h_7 hh, pA_h_7 hh, pS_h_7 hh, pR_h_8 hh, pA_h_8 hh, pS_h_8 hh, pR_h_9 hh, pA_h_9 hh, pS_h_9 hh, pR_h_10 hh, pA_h_10 hh, pS_h_10 hh, pI_h_0 hh, pP_h_0 hh, pI_h_11 hh, pP_h_11 hh, pI_h_12 hh, pP_h_12 hh, plit, nI_add, pk_mul, pn_le, pn_lt, if_true, if_false, reduceIte, mI_neg]
        by_cases e : 10 ≤ i
        · rw [if_pos e]; rfl
        · rw [if_neg e]; rfl
      | succ c =>
        have hs := pa_sup w (c := c) (by omega)
        have hr := hR.2.2.1 c (by omega)
        simp (disch := omega) only [pbs, pO_h hh, pR_h_1 hh, pA_h_1 hh, pS_h_1 hh, pR_h_2 hh, pA_h_2 hh, pS_h_2 hh, pR_h_3 hh, pA_h_3 hh, pS_h_3 hh, pR_h_4 hh, pA_h_4 hh, pS_h_4 hh, pR_h_5 hh, pA_h_5 hh, pS_h_5 hh, pR_h_6 hh, pA_h_6 hh, pS_h_6 hh, pR_h_7 hh, pA_h_7 hh, pS_h_7 hh, pR_h_8 hh, pA_h_8 hh, pS_h_8 hh, pR_h_9 hh, pA_h_9 hh, pS_h_9 hh, pR_h_10 hh, pA_h_10 hh, pS_h_10 hh, pI_h_0 hh, pP_h_0 hh, pI_h_11 hh, pP_h_11 hh, pI_h_12 hh, pP_h_12 hh, plit, nI_add, pk_mul, pn_le, pn_lt, if_true, if_false, reduceIte, mI_s, pn_lt0, hR.1, pn_eq, hr.1]
        rw [if_neg (show ¬ 10 ≤ i from by omega), if_neg (show ¬ A 40 0 ≤ c from by omega), ih (i + 1) (A 41 c) (by omega) (by omega) (by omega)]
        have hf : pa_bl A 11 (c + 1) t = (decide (c = t) || pa_bl A 11 (A 41 c) t) := by
          show (decide (c = t) || pa_bl A 10 (A 41 c) t) = _
          rw [pa_bl_fuel w t 10 11 (A 41 c) (by omega) (by omega) (by omega)]
        rw [hf]
        by_cases e : c = t
        · simp [e, bI_t]
        · simp [e]
  unfold f_X4_isBelow pa_below
  by_cases e : c < A 40 0
  · rw [← mI_s c, show (0 : Int32) = nI 0 from rfl, key hb_FU 0 (c + 1) (by omega) (by decide) (by omega)]
    simp [e]
  · rw [show hb_FU = 4095 + 1 from rfl, f_X4_isBelow_b5]
    simp (disch := omega) only [pbs, pO_h hh, pR_h_1 hh, pA_h_1 hh, pS_h_1 hh, pR_h_2 hh, pA_h_2 hh, pS_h_2 hh, pR_h_3 hh, pA_h_3 hh, pS_h_3 hh, pR_h_4 hh, pA_h_4 hh, pS_h_4 hh, pR_h_5 hh, pA_h_5 hh, pS_h_5 hh, pR_h_6 hh, pA_h_6 hh, pS_h_6 hh, pR_h_7 hh, pA_h_7 hh, pS_h_7 hh, pR_h_8 hh, pA_h_8 hh, pS_h_8 hh, pR_h_9 hh, pA_h_9 hh, pS_h_9 hh, pR_h_10 hh, pA_h_10 hh, pS_h_10 hh, pI_h_0 hh, pP_h_0 hh, pI_h_11 hh, pP_h_11 hh, pI_h_12 hh, pP_h_12 hh, plit, nI_add, pk_mul, pn_le, pn_lt, if_true, if_false, reduceIte, pn_lt0, hR.1]
    rw [if_neg (show ¬ 10 ≤ 0 from by omega), if_pos (show A 40 0 ≤ c from by omega)]
    simp [e, bI_f]
set_option maxRecDepth 8192 in
theorem x4_membersOf (hh : pm_hp h) (hR : ph_rep I h A) (w : pa_wf A) {t : Nat} (ht : t < 12) (b : Bool) : f_X4_membersOf h (nI t) (bI b) (pm I L r) = some (hb_mk (fun o => pa_al A o && (decide (A o 1 = t) || (b && pa_below A (A o 1) t))), pm I L r) := by
  have h10 := pa_cc10 w
  unfold f_X4_membersOf
  have hl := pm_loop (fun n a i => f_X4_membersOf_b5 n h (nI t) (bI b) a (nI i) (pm I L r)) (fun i a => a ||| (if (pa_al A i && (decide (A i 1 = t) || (b && pa_below A (A i 1) t))) = true then hb_mk (fun j => decide (j = i)) else 0)) 40 (out := fun a => some (a, pm I L r)) (by
    intro n a i hi
    by_cases e : A i 0 = 0
    · have hg := (hR.2.2.2 i hi).1 e
      have hb2 : f_X4_isBelow h (-nI 1) (nI t) (pm I L r) = some (nI 0, pm I L r) := by
        unfold f_X4_isBelow
        rw [show hb_FU = 4095 + 1 from rfl, f_X4_isBelow_b5, if_neg (by decide), if_pos (by decide)]
        rfl
      have hne : ¬ (-nI 1 : Int32) = nI t := fun q => by rw [eq_comm, nI_m1 (by omega)] at q; exact q
      simp (disch := omega) only [f_X4_membersOf_b5, f_X4_membersOf_b46, f_X4_membersOf_b42, f_X4_membersOf_b47, f_X4_membersOf_b64, pbs, pO_h hh, pR_h_1 hh, pA_h_1 hh, pS_h_1 hh, pR_h_2 hh, pA_h_2 hh, pS_h_2 hh, pR_h_3 hh, pA_h_3 hh, pS_h_3 hh, pR_h_4 hh, pA_h_4 hh, pS_h_4 hh, pR_h_5 hh, pA_h_5 hh, pS_h_5 hh, pR_h_6 hh, pA_h_6 hh, pS_h_6 hh, pR_h_7 hh, pA_h_7 hh, pS_h_7 hh, pR_h_8 hh, pA_h_8 hh, pS_h_8 hh, pR_h_9 hh, pA_h_9 hh, pS_h_9 hh, pR_h_10 hh, pA_h_10 hh, pS_h_10 hh, pI_h_0 hh, pP_h_0 hh, pI_h_11 hh, pP_h_11 hh, pI_h_12 hh, pP_h_12 hh, plit, nI_add, pk_mul, pn_le, pn_lt, if_true, if_false, reduceIte, hg, hb2, hne]
      rw [if_neg (by omega)]
      simp [e, pa_al]
    · have hg := ((hR.2.2.2 i hi).2 e).1
      have hg2 := pa_gr w hi e
      have hb2 := x4_isBelow (L := L) (r := r) hh hR w (c := A i 1) (t := t) (by omega) (by omega)
      simp (disch := omega) only [f_X4_membersOf_b5, f_X4_membersOf_b46, f_X4_membersOf_b42, f_X4_membersOf_b47, f_X4_membersOf_b64, pbs, pO_h hh, pR_h_1 hh, pA_h_1 hh, pS_h_1 hh, pR_h_2 hh, pA_h_2 hh, pS_h_2 hh, pR_h_3 hh, pA_h_3 hh, pS_h_3 hh, pR_h_4 hh, pA_h_4 hh, pS_h_4 hh, pR_h_5 hh, pA_h_5 hh, pS_h_5 hh, pR_h_6 hh, pA_h_6 hh, pS_h_6 hh, pR_h_7 hh, pA_h_7 hh, pS_h_7 hh, pR_h_8 hh, pA_h_8 hh, pS_h_8 hh, pR_h_9 hh, pA_h_9 hh, pS_h_9 hh, pR_h_10 hh, pA_h_10 hh, pS_h_10 hh, pI_h_0 hh, pP_h_0 hh, pI_h_11 hh, pP_h_11 hh, pI_h_12 hh, pP_h_12 hh, plit, nI_add, pk_mul, pn_le, pn_lt, if_true, if_false, reduceIte, hg, hb2, pn_eq, x8_memberN hi, bIn]
      rw [if_neg (by omega)]
      by_cases e1 : A i 1 = t
      · simp [e, pa_al, e1]
      · cases b with
        | false =>
          simp [e, pa_al, e1]
        | true =>
          cases e2 : pa_below A (A i 1) t
          · simp [e, pa_al, e1, e2]
          · simp [e, pa_al, e1, e2]) (by
    intro n a
    rw [f_X4_membersOf_b5, if_pos (by decide)]) 0 hb_FU (by decide)
  refine hl.trans ?_
  rw [pm_fold_set]
end X4A
