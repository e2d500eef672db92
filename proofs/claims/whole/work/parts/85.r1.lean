/-! the reference's leaves over a row -/
section R91
variable {I : Nat → Nat → Int32} {L : Nat → Nat → Int64} {r : Nat → Option Nat} {A : Nat → Nat → Nat}
set_option maxRecDepth 8192 in
theorem mI_def (n : Nat) : nI n - nI 1 = mI n := rfl
set_option maxRecDepth 8192 in
theorem r9_within {x a b : Int32} {σ : hb_M} : f_X9_within x a b σ = some (bI (decide (¬ x < a ∧ ¬ b < x)), σ) := by
  unfold f_X9_within
  by_cases h1 : x < a
  · rw [if_pos h1, decide_eq_false (by simp [h1])]; rfl
  · rw [if_neg h1]
    by_cases h2 : b < x
    · rw [if_pos h2, decide_eq_false (by simp [h2])]; rfl
    · rw [if_neg h2, decide_eq_true (by simp [h1, h2])]; rfl
set_option maxRecDepth 8192 in
theorem r9_inN {x : Int32} {n : Nat} (hn : n < 2 ^ 31) {σ : hb_M} : f_X9_within x (nI 0) (nI n - nI 1) σ = some (bI (pn_at n x).isSome, σ) := by
  rw [r9_within, mI_def, pw_some hn]
set_option maxRecDepth 8192 in
theorem r9_in {x : Int32} {n : Nat} (hn : n + 1 < 2 ^ 31) {σ : hb_M} : f_X9_within x (nI 0) (nI n) σ = some (bI (pn_at (n + 1) x).isSome, σ) := by
  rw [← r9_inN hn, mI_def, mI_s]
set_option maxRecDepth 8192 in
theorem r9_at {o : Nat} {σ : hb_M} : f_X9_at (nI o) σ = some (nI (32 + 13 * o), σ) := by
  unfold f_X9_at
  simp only [plit, pk_mul, nI_add]
set_option maxRecDepth 8192 in
theorem r9_refused {x : Int32} : f_X9_refused 130 x (pm I L r) = some (bI (decide (¬ x ≤ 0)), pm (up2 I 130 4 x) L r) := by
  unfold f_X9_refused
  rw [pP_130_4]
  simp only [pbs]
  by_cases h : x ≤ 0
  · rw [if_pos h, decide_eq_false (by simp [h])]; rfl
  · rw [if_neg h, decide_eq_true h]; rfl
set_option maxRecDepth 8192 in
theorem r9_isClass (hN : pr_row (I 131) A) (w : pa_wf A) (x : Int32) : f_X9_isClass 130 x (pm I L r) = some (bI (pa_isC A x), pm I L r) := by
  unfold f_X9_isClass
  have h10 := pa_cc10 w
  simp (disch := omega) only [pbs, pO_130, pR_130_0, pA_131, pS_131, plit, nI_add, pk_mul, pn_le, pn_lt, if_true, if_false, reduceIte, r9_within, hN.1]
  rw [mI_def, pw_some (by omega)]
  exact pz_zr
set_option maxRecDepth 8192 in
theorem r9_fo (hN : pr_row (I 131) A) (w : pa_wf A) : ∀ n k acc, k ≤ A 40 0 → k < n → f_X9_fieldsOf_b4 n 130 (nI acc) (mI k) (pm I L r) = some (nI (acc + pa_s A 42 n k), pm I L r) := by
  intro n
  induction n with
  | zero => intro k acc _ h; omega
  | succ n ih =>
    intro k acc hk hn
    have h10 := pa_cc10 w
    rw [f_X9_fieldsOf_b4]
    cases k with
    | zero => rw [if_pos (by decide)]; rfl
    | succ c =>
      have hc := hN.2.2.1 c (by omega)
      have hs := pa_sup w (c := c) (by omega)
      simp (disch := omega) only [pbs, pO_130, pR_130_0, pA_131, pS_131, plit, nI_add, pk_mul, pn_le, pn_lt, if_true, if_false, reduceIte, mI_s, nI_m1, hc.2.1, hc.1]
      rw [ih (A 41 c) (acc + A 42 c) (by omega) (by omega), Nat.add_assoc]
      rfl
set_option maxRecDepth 8192 in
theorem r9_fieldsOf (hN : pr_row (I 131) A) (w : pa_wf A) {c : Nat} (h : c < A 40 0) : f_X9_fieldsOf 130 (nI c) (pm I L r) = some (nI (pa_fo A c), pm I L r) := by
  have h10 := pa_cc10 w
  unfold f_X9_fieldsOf
  rw [← mI_s c, show (0 : Int32) = nI 0 from rfl, r9_fo hN w hb_FU (c + 1) 0 (by omega) (Nat.lt_of_lt_of_le (show c + 1 < 11 from by omega) (by decide)), Nat.zero_add, pa_s_fuel w 42 hb_FU 11 (c + 1) (by omega) (Nat.lt_of_lt_of_le (show c + 1 < 11 from by omega) (by decide)) (by omega)]
  rfl
set_option maxRecDepth 8192 in
theorem r9_sc (hN : pr_row (I 131) A) (w : pa_wf A) : ∀ n k acc, k ≤ A 40 0 → k < n → acc < 1000 → f_X9_sizeOfClass_b13 n 130 (nI acc) (mI k) (pm I L r) = some (nI (pa_ru (acc + pa_s A 43 n k)), pm I L r) := by
  have h10 := pa_cc10 w
  have key : ∀ n k acc, k ≤ A 40 0 → k < n → acc + 40 * k < 2000 → f_X9_sizeOfClass_b13 n 130 (nI acc) (mI k) (pm I L r) = some (nI (pa_ru (acc + pa_s A 43 n k)), pm I L r) := by
    intro n
    induction n with
    | zero => intro k acc _ h; omega
    | succ n ih =>
      intro k acc hk hn hb
      rw [f_X9_sizeOfClass_b13]
      cases k with
      | zero =>
        rw [if_pos (by decide)]
        simp (disch := omega) only [pbs, pO_130, pR_130_0, pA_131, pS_131, plit, nI_add, pk_mul, pn_le, pn_lt, if_true, if_false, reduceIte, pk_div]
        rfl
      | succ c =>
        have hc := hN.2.2.1 c (by omega)
        have hs := pa_sup w (c := c) (by omega)
        have hd := (w.2.1 c (by omega)).2.2.2.1
        simp (disch := omega) only [pbs, pO_130, pR_130_0, pA_131, pS_131, plit, nI_add, pk_mul, pn_le, pn_lt, if_true, if_false, reduceIte, mI_s, nI_m1, hc.2.2, hc.1]
        rw [ih (A 41 c) (acc + A 43 c) (by omega) (by omega) (by omega), Nat.add_assoc]
        rfl
  intro n k acc h1 h2 h3
  exact key n k acc h1 h2 (by omega)
set_option maxRecDepth 8192 in
theorem r9_sizeOfClass (hN : pr_row (I 131) A) (w : pa_wf A) {c : Nat} (h : c < A 40 0) : f_X9_sizeOfClass 130 (nI c) (pm I L r) = some (nI (pa_sc A c), pm I L r) := by
  have h10 := pa_cc10 w
  have h5 := pa_fo_le w h
  unfold f_X9_sizeOfClass
  have hF : 100 < hb_FU := by decide
  generalize hb_FU = F at hF ⊢
  simp (disch := omega) only [pbs, pO_130, pR_130_0, pA_131, pS_131, plit, nI_add, pk_mul, pn_le, pn_lt, if_true, if_false, reduceIte, r9_fieldsOf hN w h]
  rw [← mI_s c, r9_sc hN w F (c + 1) _ (by omega) (by omega) (by omega), pa_s_fuel w 43 F 11 (c + 1) (by omega) (by omega) (by omega), pa_sc, pa_da]
set_option maxRecDepth 8192 in
theorem r9_bl (hN : pr_row (I 131) A) (w : pa_wf A) (t : Nat) (ht : t < 2 ^ 31) : ∀ n k b, k ≤ A 40 0 → k < n → f_X9_isBelow_b5 n 130 (nI t) (bI b) (mI k) (pm I L r) = some (bI (b || pa_bl A n k t), pm I L r) := by
  intro n
  induction n with
  | zero => intro k acc _ h; omega
  | succ n ih =>
    intro k b hk hn
    have h10 := pa_cc10 w
    rw [f_X9_isBelow_b5]
    cases k with
    | zero =>
      rw [if_pos (by decide)]
      simp only [pa_bl, Bool.or_false]
      exact pz_zr
    | succ c =>
      have hc := hN.2.2.1 c (by omega)
      have hs := pa_sup w (c := c) (by omega)
      unfold f_X9_isBelow_b21 f_X9_isBelow_b26
      have i0 := ih (A 41 c) false (by omega) (by omega)
      have i1 := ih (A 41 c) true (by omega) (by omega)
      rw [bI_f] at i0
      rw [bI_t] at i1
      simp (disch := omega) only [pbs, pO_130, pR_130_0, pA_131, pS_131, plit, nI_add, pk_mul, pn_le, pn_lt, if_true, if_false, reduceIte, mI_s, nI_m1, hc.1, bIn, pn_eq, i0, i1]
      cases b with
      | true => simp [pa_bl]
      | false =>
        by_cases e : c = t
        · simp [pa_bl, e]
        · simp [pa_bl, e]
set_option maxRecDepth 8192 in
theorem r9_isBelow (hN : pr_row (I 131) A) (w : pa_wf A) {c t : Nat} (h : c < A 40 0) (ht : t < 2 ^ 31) : f_X9_isBelow 130 (nI c) (nI t) (pm I L r) = some (bI (pa_bl A hb_FU (c + 1) t), pm I L r) := by
  have h10 := pa_cc10 w
  unfold f_X9_isBelow
  rw [← mI_s c, show (0 : Int32) = bI false from rfl, r9_bl hN w t ht hb_FU (c + 1) false (by omega) (Nat.lt_of_lt_of_le (show c + 1 < 11 from by omega) (by decide)), Bool.false_or]
set_option maxRecDepth 8192 in
theorem r9_isObject (hN : pr_row (I 131) A) (w : pa_wf A) (x : Int32) : f_X9_isObject 130 x (pm I L r) = some (bI (pa_isO A x), pm I L r) := by
  unfold f_X9_isObject
  simp only [pbs, pO_130, pR_130_0, pA_131, pS_131, plit, nI_add, pk_mul, pn_le, pn_lt, if_true, if_false, reduceIte, r9_within]
  rw [show (nI 39 : Int32) = mI 40 from by decide, pw_some (by decide)]
  unfold pa_isO
  cases e : pn_at 40 x with
  | none => simp only [Option.isSome_none, bI_f, if_true]
  | some o =>
    obtain ⟨ho, hx⟩ := pn_at_some (by decide) e
    subst hx
    have hb := pa_s0 w ho
    have h0 := (hN.2.2.2 o ho).1 0 (by decide)
    simp only [Option.isSome_some, bIn, Bool.true_eq_false, if_false]
    simp (disch := omega) only [pbs, pO_130, pR_130_0, pA_131, pS_131, plit, nI_add, pk_mul, pn_le, pn_lt, if_true, if_false, reduceIte, r9_at, h0, pn_eq]
    unfold pa_al
    by_cases h : A o 0 = 0
    · simp [h, bI_f]
    · simp [h, bI_t]
set_option maxRecDepth 8192 in
theorem r9_isObj (hN : pr_row (I 131) A) (w : pa_wf A) {o : Nat} (h : o < 40) : f_X9_isObject 130 (nI o) (pm I L r) = some (bI (pa_al A o), pm I L r) := by
  rw [r9_isObject hN w, pa_isO_nI h]
set_option maxRecDepth 8192 in
theorem r9_isSlot (hN : pr_row (I 131) A) (w : pa_wf A) (x y : Int32) : f_X9_isSlot 130 x y (pm I L r) = some (bI (pa_isS A x y), pm I L r) := by
  unfold f_X9_isSlot
  simp only [pbs, pO_130, pR_130_0, pA_131, pS_131, plit, nI_add, pk_mul, pn_le, pn_lt, if_true, if_false, reduceIte, r9_isObject hN w]
  unfold pa_isO pa_isS
  cases e : pn_at 40 x with
  | none => simp only [bI_f, if_true]
  | some o =>
    obtain ⟨ho, hx⟩ := pn_at_some (by decide) e
    subst hx
    by_cases ha : A o 0 = 0
    · simp [pa_al, ha, bI_f]
    · have h8 := pa_sl8 w ho ha
      have h0 := (hN.2.2.2 o ho).1 2 (by decide)
      simp only [pa_al, ha, ne_eq, not_false_eq_true, decide_true, bIn, Bool.true_eq_false, if_false, Bool.true_and]
      simp (disch := omega) only [pbs, pO_130, pR_130_0, pA_131, pS_131, plit, nI_add, pk_mul, pn_le, pn_lt, if_true, if_false, reduceIte, r9_at, h0, r9_inN]
      cases (pn_at (A o 2) y).isSome <;> rfl
set_option maxRecDepth 8192 in
theorem r9_many (hN : pr_row (I 131) A) (w : pa_wf A) : f_X9_many 130 (pm I L r) = some (nI (fb_ct (pa_al A) 40), pm I L r) := by
  unfold f_X9_many
  have h := pm_loop (fun n a i => f_X9_many_b4 n 130 a (nI i) (pm I L r)) (fun i a => a + nI (pb_b (pa_al A i))) 40 (out := fun a => some (a, pm I L r)) (by
    intro n a i hi
    simp (disch := omega) only [f_X9_many_b4, f_X9_many_b24, pbs, pO_130, pR_130_0, pA_131, pS_131, plit, nI_add, pk_mul, pn_le, pn_lt, if_true, if_false, reduceIte, pn_le, r9_isObj hN w hi, bIn]
    rw [if_neg (by omega)]
    cases pa_al A i <;> simp [pb_b]) (by
    intro n a
    rw [f_X9_many_b4, if_pos (by decide)]) (nI 0) hb_FU (by decide)
  refine h.trans ?_
  rw [pm_fold_sum, pc_ct, Nat.zero_add]
set_option maxRecDepth 8192 in
theorem r9_sizeOf (hN : pr_row (I 131) A) (w : pa_wf A) {o : Nat} (ho : o < 40) (ha : A o 0 ≠ 0) : f_X9_sizeOf 130 (nI o) (pm I L r) = some (nI (pa_so A o), pm I L r) := by
  unfold f_X9_sizeOf
  have hg := pa_gr w ho ha
  have h8 := pa_sl8 w ho ha
  have h1 := (hN.2.2.2 o ho).1 1 (by decide)
  have h2 := (hN.2.2.2 o ho).1 2 (by decide)
  simp (disch := omega) only [pbs, pO_130, pR_130_0, pA_131, pS_131, plit, nI_add, pk_mul, pn_le, pn_lt, if_true, if_false, reduceIte, r9_at, h1, h2, pn_eq, pk_div]
  unfold pa_so
  by_cases e : A o 1 = 11
  · simp only [e, if_true]
  · by_cases e2 : A o 1 = 10
    · simp only [e2, if_true]
      rfl
    · have hc : A o 1 < A 40 0 := by
        obtain ⟨h, -⟩ := w.2.2.2.1 o ho ha
        omega
      simp only [e, e2, if_false, r9_sizeOfClass hN w hc, pbs]
set_option maxRecDepth 8192 in
theorem r9_sizes (hN : pr_row (I 131) A) (w : pa_wf A) (p : Nat → Bool) (hp : ∀ o, o < 40 → p o = true → A o 0 ≠ 0) : f_X9_sizes 130 (hb_mk p) (pm I L r) = some (lN (fb_sm (fun o => if p o then pa_so A o else 0) 40), pm I L r) := by
  unfold f_X9_sizes
  have h := pm_loop (fun n a i => f_X9_sizes_b5 n 130 (hb_mk p) a (nI i) (pm I L r)) (fun i a => a + lN (if p i then pa_so A i else 0)) 40 (out := fun a => some (a, pm I L r)) (by
    intro n a i hi
    simp (disch := omega) only [f_X9_sizes_b5, f_X9_sizes_b35, pbs, pO_130, pR_130_0, pA_131, pS_131, plit, nI_add, pk_mul, pn_le, pn_lt, if_true, if_false, reduceIte, pn_le, pb_cS hi, pb_cmp0]
    rw [if_neg (by omega)]
    by_cases e : p i = true
    · have hs := pa_so_le w hi (hp i hi e)
      rw [if_pos (pb_l1.mpr e), r9_sizeOf hN w hi (hp i hi e)]
      simp only [pbs, e, if_true]
      rw [nI_l (by omega)]
    · rw [if_neg (fun h => e (pb_l1.mp h))]
      simp only [e]
      rfl) (by
    intro n a
    rw [f_X9_sizes_b5, if_pos (by decide)]) (lN 0) hb_FU (by decide)
  refine h.trans ?_
  rw [pm_fold_sumL, Nat.zero_add]
end R91
