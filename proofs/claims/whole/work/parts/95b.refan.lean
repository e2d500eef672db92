/-! the reference's analysis: what is retained, dominators, components, counts -/
set_option maxRecDepth 8192 in
theorem mI_add (a b : Nat) : mI a + nI b = mI (a + b) := by
  unfold mI
  rw [← nI_add, Int32.sub_eq_add_neg, Int32.sub_eq_add_neg, Int32.add_assoc, Int32.add_comm (-nI 1), ← Int32.add_assoc]
set_option maxRecDepth 8192 in
theorem pm_fold_sumM (v : Nat → Nat) (m : Nat) : pm_fold (fun i (a : Int32) => a + nI (v i)) m (-nI 1) = mI (fb_sm v m) := by
  induction m with
  | zero => exact mI_0.symm
  | succ m ih =>
    show pm_fold (fun i (a : Int32) => a + nI (v i)) m (-nI 1) + nI (v m) = _
    rw [ih, mI_add, fb_sm_succ]
noncomputable def mR (K : Nat → Nat → Int64) (A : Nat → Nat → Nat) : Prop := K 130 11 = hb_mk (px_R A) ∧ ∀ o, o < 40 → K 138 o = hb_mk (fun x => pd_D A x o)
def mL (K : Nat → Nat → Int64) (A : Nat → Nat → Nat) : Prop := ∀ o, o < 40 → K 141 o = hb_mk (ld_n A 40 o)
set_option maxRecDepth 8192 in
theorem fb_ct_cut {p : Nat → Bool} {m n : Nat} (hm : m ≤ n) (h : ∀ i, m ≤ i → i < n → p i = false) : fb_ct p n = fb_ct p m := by
  obtain ⟨d, rfl⟩ : ∃ d, n = m + d := ⟨n - m, by omega⟩
  rw [fb_ct_split, fb_ct_zero.mpr (fun k hk => h (m + k) (by omega) (by omega)), Nat.add_zero]
set_option maxRecDepth 8192 in
theorem pa_ou_eq (A : Nat → Nat → Nat) {o : Nat} (ho : o < 40) : pa_ou A o 320 = fb_ct (fun s => decide (pa_rf A (o * 8 + s) ≠ 0)) 8 := by
  have key : ∀ m, pa_ou A o (8 * m) = if o < m then fb_ct (fun s => decide (pa_rf A (o * 8 + s) ≠ 0)) 8 else 0 := by
    intro m
    induction m with
    | zero => rfl
    | succ m ih =>
      unfold pa_ou at ih ⊢
      rw [Nat.mul_succ, fb_ct_split, ih]
      by_cases e : m = o
      · subst e
        rw [if_neg (Nat.lt_irrefl m), if_pos (by omega), Nat.zero_add]
        apply fb_ct_cong
        intro s hs
        have : (8 * m + s) / 8 = m := by omega
        rw [this, Nat.mul_comm 8 m]
        simp
      · have h0 : fb_ct (fun k => decide ((8 * m + k) / 8 = o) && decide (pa_rf A (8 * m + k) ≠ 0)) 8 = 0 := fb_ct_zero.mpr (fun s hs => by
          have : ¬ (8 * m + s) / 8 = o := by omega
          simp [this])
        rw [h0, Nat.add_zero]
        have he : (o < m + 1) = (o < m) := propext ⟨fun _ => by omega, fun _ => by omega⟩
        simp only [he]
  have := key 40
  rw [if_pos ho] at this
  exact this
section RAN
variable {I J : Nat → Nat → Int32} {L K : Nat → Nat → Int64} {r : Nat → Option Nat} {A : Nat → Nat → Nat} {n : Nat} {H : Nat → Nat → Nat → Nat} {t : Nat} {T : Nat → Nat} {P : Nat → Nat → Nat → Nat} {k : Nat → Bool} {B : Nat}
set_option maxRecDepth 8192 in
theorem r9_need {b : Bool} {σ : hb_M} : f_X9_need 130 (bI b) σ = some (nI (if b = true then 0 else 1), σ) := by
  unfold f_X9_need
  cases b
  · rfl
  · rfl
set_option maxRecDepth 8192 in
theorem r9_from (hN : pr_row (I 131) A) (w : pa_wf A) {o : Nat} (ho : o < 40) (ha : A o 0 ≠ 0) : f_X9_referencesFrom 130 (nI o) (pm I L r) = some (nI (pa_ou A o 320), pm I L r) := by
  have hg := pa_gr w ho ha
  have h8 := pa_sl8 w ho ha
  have h1 := (hN.2.2.2 o ho).1 1 (by decide)
  have h2 := (hN.2.2.2 o ho).1 2 (by decide)
  obtain ⟨-, -, -, hsl⟩ := w.2.2.2.1 o ho ha
  have hrf : ∀ s, s < 8 → pa_rf A (o * 8 + s) = if A o 1 ≠ 11 then A o (5 + s) else 0 := by
    intro s hs
    unfold pa_rf
    rw [show (o * 8 + s) / 8 = o from by omega, show (o * 8 + s) % 8 = s from by omega]
    simp only [ha, ne_eq, not_false_eq_true, true_and]
  rw [pa_ou_eq A ho]
  unfold f_X9_referencesFrom
  by_cases e : A o 1 = 11
  · have hz : fb_ct (fun s => decide (pa_rf A (o * 8 + s) ≠ 0)) 8 = 0 := fb_ct_zero.mpr (fun s hs => by
      rw [hrf s hs]
      simp [e])
    rw [hz]
    obtain ⟨F9, hF9⟩ : ∃ F, hb_FU = F + 1 := ⟨4095, rfl⟩
    rw [hF9, f_X9_referencesFrom_b4]
    simp (disch := omega) only [pbs, pO_130, pR_130_0, pA_131, pS_131, plit, nI_add, pk_mul, pn_le, pn_lt, if_true, if_false, reduceIte, r9_at, h1, h2, pn_eq, e]
    split <;> rfl
  · have hc : fb_ct (fun s => decide (pa_rf A (o * 8 + s) ≠ 0)) 8 = fb_ct (fun s => decide (pa_rf A (o * 8 + s) ≠ 0)) (A o 2) := fb_ct_cut h8 (fun s hs1 hs2 => by
      rw [hrf s hs2, if_pos e, (hsl s hs2).1 hs1]
      rfl)
    rw [hc]
    have hl := pm_loop (fun n a i => f_X9_referencesFrom_b4 n 130 (nI o) a (nI i) (pm I L r)) (fun i a => a + nI (pb_b (decide (pa_rf A (o * 8 + i) ≠ 0)))) (A o 2) (out := fun a => some (a, pm I L r)) (by
      intro n a i hi
      have hv := (hN.2.2.2 o ho).2 i (by omega)
      have hb := (hsl i (by omega)).2.1
      have hr := hrf i (by omega)
      rw [if_pos e] at hr
      simp (disch := omega) only [f_X9_referencesFrom_b4, f_X9_referencesFrom_b58, pbs, pO_130, pR_130_0, pA_131, pS_131, plit, nI_add, pk_mul, pn_le, pn_lt, if_true, if_false, reduceIte, r9_at, h1, h2, pn_eq, e, hv, mI_none]
      rw [if_neg (show ¬ A o 2 ≤ i from by omega), hr]
      by_cases e0 : A o (5 + i) = 0
      · simp [e0, pb_b]
      · simp [e0, pb_b]) (by
      intro n a
      simp (disch := omega) only [f_X9_referencesFrom_b4, pbs, pO_130, pR_130_0, pA_131, pS_131, plit, nI_add, pk_mul, pn_le, pn_lt, if_true, if_false, reduceIte, r9_at, h2, Nat.le_refl]) (nI 0) hb_FU (Nat.lt_of_le_of_lt h8 (by decide))
    refine hl.trans ?_
    rw [pm_fold_sum, Nat.zero_add, pc_ct]
set_option maxRecDepth 8192 in
theorem r9_to (hN : pr_row (I 131) A) (w : pa_wf A) {t : Nat} (ht : t < 40) : f_X9_referencesTo 130 (nI t) (pm I L r) = some (nI (pa_in A t 320), pm I L r) := by
  unfold f_X9_referencesTo
  have hl := pm_seq (fun n (a : Nat) i => f_X9_referencesTo_b4 n 130 (nI t) (nI a) (nI i) (pm I L r)) (fun i => pa_in A t (8 * i)) 40 (out := some (nI (pa_in A t 320), pm I L r)) (by
    intro n i hi
    have hsplit : pa_in A t (8 * (i + 1)) = pa_in A t (8 * i) + fb_ct (fun s => decide (pa_rf A (8 * i + s) = t + 1)) 8 := by
      unfold pa_in
      rw [Nat.mul_succ, fb_ct_split]
    have hrf : ∀ s, s < 8 → pa_rf A (8 * i + s) = if A i 0 ≠ 0 ∧ A i 1 ≠ 11 then A i (5 + s) else 0 := by
      intro s hs
      unfold pa_rf
      rw [show (8 * i + s) / 8 = i from by omega, show (8 * i + s) % 8 = s from by omega]
    simp (disch := omega) only [f_X9_referencesTo_b4, f_X9_referencesTo_b85, plit, pn_le, pO_130, pbs, r9_isObj hN w hi, bIn, nI_add]
    rw [if_neg (show ¬ 40 ≤ i from by omega), hsplit]
    have hz : (A i 0 = 0 ∨ A i 1 = 11) → fb_ct (fun s => decide (pa_rf A (8 * i + s) = t + 1)) 8 = 0 := fun h => fb_ct_zero.mpr (fun s hs => by
      rw [hrf s hs, if_neg (by omega)]
      simp)
    by_cases ha : A i 0 = 0
    · rw [hz (Or.inl ha), if_pos (by simp [pa_al, ha])]
      rfl
    · have hg := pa_gr w hi ha
      have h8 := pa_sl8 w hi ha
      have h1 := (hN.2.2.2 i hi).1 1 (by decide)
      have h2 := (hN.2.2.2 i hi).1 2 (by decide)
      obtain ⟨-, -, -, hsl⟩ := w.2.2.2.1 i hi ha
      rw [if_neg (by simp [pa_al, ha])]
      simp (disch := omega) only [pbs, pO_130, pR_130_0, pA_131, pS_131, plit, nI_add, pk_mul, pn_le, pn_lt, if_true, if_false, reduceIte, r9_at, h1, pn_eq]
      by_cases e : A i 1 = 11
      · rw [hz (Or.inr e), if_pos e]
        rfl
      · rw [if_neg e]
        have hc : fb_ct (fun s => decide (pa_rf A (8 * i + s) = t + 1)) 8 = fb_ct (fun s => decide (pa_rf A (8 * i + s) = t + 1)) (A i 2) := fb_ct_cut h8 (fun s hs1 hs2 => by
          rw [hrf s hs2, if_pos ⟨ha, e⟩, (hsl s hs2).1 hs1]
          simp)
        rw [hc]
        have hin := pm_seq (fun m (a : Nat) s => f_X9_referencesTo_b37 (f_X9_referencesTo_b4 n) m 130 (nI t) (nI a) (nI i) (nI s) (pm I L r)) (fun s => pa_in A t (8 * i) + fb_ct (fun s => decide (pa_rf A (8 * i + s) = t + 1)) s) (A i 2) (out := f_X9_referencesTo_b4 n 130 (nI t) (nI (pa_in A t (8 * i) + fb_ct (fun s => decide (pa_rf A (8 * i + s) = t + 1)) (A i 2))) (nI (i + 1)) (pm I L r)) (by
          intro m s hs
          have hv := (hN.2.2.2 i hi).2 s (by omega)
          have hb := (hsl s (by omega)).2.1
          have hr := hrf s (by omega)
          rw [if_pos ⟨ha, e⟩] at hr
          simp (disch := omega) only [f_X9_referencesTo_b37, f_X9_referencesTo_b77, pbs, pO_130, pR_130_0, pA_131, pS_131, plit, nI_add, pk_mul, pn_le, pn_lt, if_true, if_false, reduceIte, r9_at, h2, hv, mI_nI]
          rw [if_neg (show ¬ A i 2 ≤ s from by omega), fb_ct_succ, hr]
          by_cases e0 : A i (5 + s) = t + 1
          · simp [e0, Nat.add_assoc]
          · simp [e0]) (by
          intro m
          simp (disch := omega) only [f_X9_referencesTo_b37, f_X9_referencesTo_b85, pbs, pO_130, pR_130_0, pA_131, pS_131, plit, nI_add, pk_mul, pn_le, pn_lt, if_true, if_false, reduceIte, r9_at, h2, Nat.le_refl]) hb_FU (Nat.lt_of_le_of_lt h8 (by decide))
        exact hin) (by
    intro n
    rw [f_X9_referencesTo_b4, if_pos (by decide)]) hb_FU (by decide)
  exact hl
set_option maxRecDepth 8192 in
theorem r9_laysRet (hN : pr_row (I 131) A) (w : pa_wf A) : ∃ K, f_X9_laysRetained 130 (pm I L r) = some (pm I K r) ∧ mR K A ∧ (∀ a, a ≠ 130 → a ≠ 138 → K a = L a) ∧ ∀ j, j ≠ 11 → K 130 j = L 130 j := by
  refine ⟨prow (up2 L 130 11 (hb_mk (px_R A))) 138 40 (fun o => hb_mk (fun x => pd_D A x o)), ?_, ⟨?_, fun o ho => prow_in ho⟩, fun a h1 h2 => by rw [prow_a h2, up2_a h1], fun j hj => by rw [prow_ne (by decide), up2_nj hj]⟩
  · unfold f_X9_laysRetained
    simp only [plit, pO_130, r9_all hN w, pbs, pP_130_11]
    have hl := pm_seq (fun n (a : Nat → Nat → Int64) i => f_X9_laysRetained_b14 n 130 (nI i) (pm I a r)) (fun i => prow (up2 L 130 11 (hb_mk (px_R A))) 138 i (fun o => hb_mk (fun x => pd_D A x o))) 40 (out := some (pm I (prow (up2 L 130 11 (hb_mk (px_R A))) 138 40 (fun o => hb_mk (fun x => pd_D A x o))) r)) (by
      intro n i hi
      have hre : f_X9_reached 130 (hb_mk (fun j => decide (j = i))) (-nI 1) (-nI 1) (-nI 1) (pm I (prow (up2 L 130 11 (hb_mk (px_R A))) 138 i (fun o => hb_mk (fun x => pd_D A x o))) r) = some (hb_mk (pg_b A (fun j => decide (j = i)) pg_00 pg_0), pm I (prow (up2 L 130 11 (hb_mk (px_R A))) 138 i (fun o => hb_mk (fun x => pd_D A x o))) r) := by
        rw [r9_reached hN w, pg_b_none]
      have hone := pb_one hi
      simp (disch := omega) only [f_X9_laysRetained_b14, f_X9_laysRetained_b61, plit, pn_le, pR_130_12, pI_130_11, pbs, prow_ne, up2_eq, pb_cS hi, pb_cmpE, pb_l1', pO_130, hone, hre, pb_anot, pS_138, nI_add]
      rw [if_neg (show ¬ 40 ≤ i from by omega)]
      have hu := prow_up (up2 L 130 11 (hb_mk (px_R A))) 138 i (fun o => hb_mk (fun x => pd_D A x o))
      cases e : px_R A i
      · rw [if_neg (by decide)]
        have hz : (0 : Int64) = hb_mk (fun x => pd_D A x i) := by
          symm
          apply pb_zero.mpr
          intro x hx
          cases e2 : pd_D A x i
          · rfl
          · have := (pd_self w hi e2).2
            unfold px_R at e
            rw [e] at this
            cases this
        rw [hz, hu]
      · rw [if_pos rfl]
        have hz : hb_mk (fun j => px_R A j && !pg_b A (fun j => decide (j = i)) pg_00 pg_0 j) = hb_mk (fun x => pd_D A x i) := rfl
        rw [hz, hu]) (by
      intro n
      rw [f_X9_laysRetained_b14, if_pos (by decide)]) hb_FU (by decide)
    simp only [prow_0] at hl
    exact hl
  · rw [prow_ne (by decide), up2_eq]
set_option maxRecDepth 8192 in
theorem r9_isReached (hR : mR L A) {o : Nat} (ho : o < 40) : f_X9_isReached 130 (nI o) (pm I L r) = some (bI (px_R A o), pm I L r) := by
  unfold f_X9_isReached
  simp only [pI_130_11, pbs, hR.1, pb_cS ho, plit, pb_cmpE, pb_l1']
  cases px_R A o <;> rfl
set_option maxRecDepth 8192 in
theorem r9_depthOf (hR : mR L A) {o : Nat} (ho : o < 40) : f_X9_depthOf 130 (nI o) (pm I L r) = some (mI (fb_ct (pd_D A o) 40), pm I L r) := by
  unfold f_X9_depthOf
  have hl := pm_loop (fun n a i => f_X9_depthOf_b4 n 130 (nI o) a (nI i) (pm I L r)) (fun i a => a + nI (pb_b (pd_D A o i))) 40 (out := fun a => some (a, pm I L r)) (by
    intro n a i hi
    simp (disch := omega) only [f_X9_depthOf_b4, f_X9_depthOf_b31, plit, pn_le, pR_130_12, pbs, pA_138, hR.2 i hi, pb_cS ho, pb_cmpE, pb_l1', nI_add]
    rw [if_neg (show ¬ 40 ≤ i from by omega)]
    cases pd_D A o i <;> simp [pb_b]) (by
    intro n a
    rw [f_X9_depthOf_b4, if_pos (by decide)]) (-nI 1) hb_FU (by decide)
  refine hl.trans ?_
  rw [pm_fold_sumM, pc_ct]
set_option maxRecDepth 8192 in
theorem r9_immediate (hR : mR L A) (w : pa_wf A) {o : Nat} (ho : o < 40) : f_X9_immediate 130 (nI o) (pm I L r) = some (mI (px_im A o), pm I L r) := by
  unfold f_X9_immediate
  cases e : px_R A o
  · have hz : px_im A o = 0 := by
      refine pi_im_0 (fun x hx h => (pd_self w hx h).1) ?_ 40 (Nat.le_refl 40)
      rw [fb_ct_zero.mpr (fun x _ => by
        cases e2 : pd_D A o x
        · rfl
        · have := pd_R e2
          unfold px_R at e
          rw [e] at this
          cases this)]
      decide
    obtain ⟨F9, hF9⟩ : ∃ F, hb_FU = F + 1 := ⟨4095, rfl⟩
    rw [hF9, f_X9_immediate_b4, if_neg (by decide), pO_130, r9_isReached hR ho, e, hz]
    rfl
  · have hoo : pd_D A o o = true := by
      unfold pd_D
      unfold px_R at e
      simp only [e, Bool.true_and, Bool.not_eq_true']
      refine pr_b_not.mpr ?_
      intro hr
      have : (fun x => x ≠ o) o := hr (fun x => x ≠ o) (fun s hs => by
        unfold pg_S at hs
        simp only [Bool.and_eq_true, Bool.not_eq_true', decide_eq_false_iff_not] at hs
        exact hs.2) (fun x y _ he => by
        unfold pg_E at he
        simp only [Bool.and_eq_true, Bool.not_eq_true', decide_eq_false_iff_not] at he
        exact he.2)
      exact this rfl
    have hpos : 0 < fb_ct (pd_D A o) 40 := fb_ct_pos.mpr ⟨o, ho, hoo⟩
    have hcto := fb_ct_le (pd_D A o) 40
    have hl := pm_seq (fun n (a : Nat) i => f_X9_immediate_b4 n 130 (nI o) (mI a) (nI i) (pm I L r)) (fun i => pi_im (pd_D A) o i) 40 (out := some (mI (px_im A o), pm I L r)) (by
      intro n i hi
      have hcti := fb_ct_le (pd_D A i) 40
      have hst : pi_im (pd_D A) o (i + 1) = if (pd_D A o i && decide (fb_ct (pd_D A i) 40 + 1 = fb_ct (pd_D A o) 40)) = true then i + 1 else pi_im (pd_D A) o i := rfl
      have hsub : mI (fb_ct (pd_D A o) 40) - nI 1 = mI (fb_ct (pd_D A o) 40 - 1) := by
        obtain ⟨d, hd⟩ : ∃ d, fb_ct (pd_D A o) 40 = d + 1 := ⟨fb_ct (pd_D A o) 40 - 1, by omega⟩
        rw [hd, mI_s, Nat.add_sub_cancel]
        rfl
      simp (disch := omega) only [f_X9_immediate_b4, f_X9_immediate_b55, plit, pn_le, pO_130, r9_isReached hR ho, e, pbs, bIn, Bool.true_eq_false, if_false, pn_eq, pR_130_12, pA_138, hR.2 i hi, pb_cS ho, pb_cmpE, pb_l1', r9_depthOf hR hi, r9_depthOf hR ho, hsub, mI_eq, nI_add]
      rw [if_neg (show ¬ 40 ≤ i from by omega), hst]
      by_cases e1 : i = o
      · subst e1
        have : ¬ fb_ct (pd_D A i) 40 + 1 = fb_ct (pd_D A i) 40 := by omega
        simp [this]
      · rw [if_neg e1]
        cases e2 : pd_D A o i
        · simp
        · by_cases e3 : fb_ct (pd_D A i) 40 = fb_ct (pd_D A o) 40 - 1
          · rw [if_pos rfl, if_pos e3, if_pos (by simp; omega), mI_s]
          · rw [if_pos rfl, if_neg e3, if_neg (by simp; omega)]) (by
      intro n
      rw [f_X9_immediate_b4, if_pos (by decide)]
      rfl) hb_FU (by decide)
    exact hl
set_option maxRecDepth 8192 in
theorem r9_retBy (hN : pr_row (I 131) A) (w : pa_wf A) (hR : mR L A) {o : Nat} (ho : o < 40) : f_X9_retainedBy 130 (nI o) (pm I L r) = some (nI (pd_rt A o), pm I L r) := by
  unfold f_X9_retainedBy
  simp only [pR_130_12, pbs, pA_138 ho, hR.2 o ho, pO_130]
  rw [r9_sizes hN w (fun x => pd_D A x o) (fun _ _ h => pd_al w h)]
  simp only [pbs, lN_i]
  rfl
set_option maxRecDepth 8192 in
theorem r9_bits {p : Nat → Bool} {σ : hb_M} : f_X9_bits (hb_mk p) σ = some (nI (fb_ct p 40), σ) := by
  unfold f_X9_bits
  have hl := pm_loop (fun n a i => f_X9_bits_b4 n (hb_mk p) a (nI i) σ) (fun i a => a + nI (pb_b (p i))) 40 (out := fun a => some (a, σ)) (by
    intro n a i hi
    simp (disch := omega) only [f_X9_bits_b4, plit, pn_le, pb_cS hi, lN_i, nI_add]
    rw [if_neg (show ¬ 40 ≤ i from by omega)]) (by
    intro n a
    rw [f_X9_bits_b4, if_pos (by decide)]) (nI 0) hb_FU (by decide)
  refine hl.trans ?_
  rw [pm_fold_sum, Nat.zero_add, pc_ct]
set_option maxRecDepth 8192 in
theorem r9_first {p : Nat → Bool} {o : Nat} (ho : o < 40) (hp : p o = true) (hm : ∀ j, j < o → p j = false) {σ : hb_M} : f_X9_first (hb_mk p) σ = some (nI o, σ) := by
  unfold f_X9_first
  exact pm_seq (fun n (_ : Unit) i => f_X9_first_b2 n (hb_mk p) (nI i) σ) (fun _ => ()) o (out := some (nI o, σ)) (by
    intro n i hi
    rw [f_X9_first_b2]
    simp only [plit, pb_cS (p := p) (show i < 40 from by omega), pb_cmpE, pb_l0', hm i hi, if_true, nI_add]) (by
    intro n
    rw [f_X9_first_b2]
    simp only [plit, pb_cS (p := p) ho, pb_cmpE, pb_l0', hp, Bool.true_eq_false, if_false]) hb_FU (Nat.lt_trans ho (by decide))
set_option maxRecDepth 8192 in
theorem r9_leads (hN : pr_row (I 131) A) (w : pa_wf A) : ∃ K, f_X9_laysLeads 130 (pm I L r) = some (pm I K r) ∧ mL K A ∧ ∀ a, a ≠ 141 → K a = L a := by
  refine ⟨pl_D L 141 (ld_n A 40), ?_, fun o ho => pl_D_in ho, fun a ha => by funext j; exact pl_D_ne ha⟩
  have hrow : ∀ (n v : Nat) (D : Nat → Nat → Bool), v < 40 → f_X9_laysLeads_b53 (f_X9_laysLeads_b45 n) hb_FU 130 (nI v) (nI 0) (pm I (pl_D L 141 D) r) = f_X9_laysLeads_b45 n 130 (nI (v + 1)) (pm I (pl_D L 141 (ld_w v D)) r) := by
    intro n v D hv
    have hl := pm_seq (fun m a i => f_X9_laysLeads_b53 (f_X9_laysLeads_b45 n) m 130 (nI v) (nI i) (pm I a r)) (fun i => pl_D L 141 (fun x => if x < i then ld_w v D x else D x)) 40 (out := f_X9_laysLeads_b45 n 130 (nI (v + 1)) (pm I (pl_D L 141 (ld_w v D)) r)) (by
      intro m i hi
      have hv2 : hb_mk (if v < i then ld_w v D v else D v) = hb_mk (D v) := by
        by_cases e : v < i
        · rw [if_pos e]
          apply pb_congr
          intro t _
          unfold ld_w
          cases D v v <;> cases D v t <;> rfl
        · rw [if_neg e]
      have hi2 : (if i < i then ld_w v D i else D i) = D i := if_neg (Nat.lt_irrefl i)
      simp (disch := omega) only [f_X9_laysLeads_b53, f_X9_laysLeads_b91, plit, pn_le, pR_130_15, pA_141, pl_D_in, pbs, hv2, hi2, pb_cS hv, pb_cmpE, pb_l1', pb_or, pS_141, nI_add]
      rw [if_neg (show ¬ 40 ≤ i from by omega)]
      have hfin : ∀ p : Nat → Bool, (∀ t, t < 40 → p t = ld_w v D i t) → up2 (pl_D L 141 (fun x => if x < i then ld_w v D x else D x)) 141 i (hb_mk p) = pl_D L 141 (fun x => if x < i + 1 then ld_w v D x else D x) := by
        intro p hp
        rw [pl_D_up hi, pl_D_row, pl_D_row]
        apply prow_cong
        intro j hj
        apply pb_congr
        intro t ht
        by_cases e : j = i
        · rw [if_pos e, if_pos (by omega), hp t ht, e]
        · rw [if_neg e]
          by_cases e2 : j < i
          · rw [if_pos e2, if_pos (by omega)]
          · rw [if_neg e2, if_neg (by omega)]
      cases e : D i v
      · rw [if_neg (by decide), pb_or_0, hfin _ (fun t _ => by simp [ld_w, e])]
      · rw [if_pos rfl, hfin _ (fun t _ => by simp [ld_w, e])]) (by
      intro m
      rw [f_X9_laysLeads_b53, if_pos (by decide)]
      simp only [plit, nI_add]
      congr 2
      rw [pl_D_row, pl_D_row]
      apply prow_cong
      intro j hj
      rw [if_pos hj]) hb_FU (by decide)
    have e0 : (fun x => if x < 0 then ld_w v D x else D x) = D := by
      funext x
      rw [if_neg (Nat.not_lt_zero x)]
    simp only [e0] at hl
    exact hl
  have hw := pm_seq (fun n a i => f_X9_laysLeads_b45 n 130 (nI i) (pm I a r)) (fun i => pl_D L 141 (ld_n A i)) 40 (out := some (pm I (pl_D L 141 (ld_n A 40)) r)) (by
    intro n i hi
    simp (disch := omega) only [f_X9_laysLeads_b45, plit, pn_le]
    rw [if_neg (show ¬ 40 ≤ i from by omega), hrow n i _ hi]
    rfl) (by
    intro n
    rw [f_X9_laysLeads_b45, if_pos (by decide)]) hb_FU (by decide)
  have hl := pm_seq (fun n (a : Nat → Nat → Int64) i => f_X9_laysLeads_b2 n 130 (nI i) (pm I a r)) (fun i => prow L 141 i (fun j => hb_mk (ld_0 A j))) 40 (out := f_X9_laysLeads_b45 hb_FU 130 (nI 0) (pm I (pl_D L 141 (ld_n A 0)) r)) (by
    intro n i hi
    simp (disch := omega) only [f_X9_laysLeads_b2, f_X9_laysLeads_b36, plit, pn_le, pbs, pR_130_15, pO_130, r9_isObj hN w hi, bIn, pS_141, nI_add]
    rw [if_neg (show ¬ 40 ≤ i from by omega)]
    have hup : ∀ v : Int64, v = hb_mk (ld_0 A i) → up2 (prow L 141 i (fun j => hb_mk (ld_0 A j))) 141 i v = prow L 141 (i + 1) (fun j => hb_mk (ld_0 A j)) := by
      intro v hv
      rw [hv]
      exact prow_up L 141 i (fun j => hb_mk (ld_0 A j))
    by_cases ha : A i 0 = 0
    · have e1 : pa_al A i = false := by simp [pa_al, ha]
      rw [e1, if_pos rfl, hup 0 (by rw [← pb_0]; exact pb_congr (fun a _ => by simp [ld_0, e1]))]
    · have e1 : pa_al A i = true := by simp [pa_al, ha]
      have hone := pb_one hi
      simp (disch := omega) only [e1, Bool.true_eq_false, if_false, r9_refersTo hN w hi ha, pbs, pa_e_none2 hi, hone, pb_or, pS_141]
      rw [hup _ (pb_congr (fun a _ => by simp [ld_0, e1, Bool.or_comm]))]) (by
    intro n
    rw [f_X9_laysLeads_b2, if_pos (by decide)]
    rfl) hb_FU (by decide)
  simp only [prow_0] at hl
  unfold f_X9_laysLeads
  exact hl.trans hw
set_option maxRecDepth 8192 in
theorem r9_compOf (hL : mL L A) {o : Nat} (ho : o < 40) : f_X9_componentOf 130 (nI o) (pm I L r) = some (hb_mk (fun b => ld_n A 40 o b && ld_n A 40 b o), pm I L r) := by
  unfold f_X9_componentOf
  have hl := pm_loop (fun n a i => f_X9_componentOf_b5 n 130 (nI o) a (nI i) (pm I L r)) (fun i a => a ||| (if (ld_n A 40 o i && ld_n A 40 i o) = true then hb_mk (fun j => decide (j = i)) else 0)) 40 (out := fun a => some (a, pm I L r)) (by
    intro n a i hi
    have hone := pb_one hi
    simp (disch := omega) only [f_X9_componentOf_b5, f_X9_componentOf_b52, f_X9_componentOf_b53, plit, pn_le, pR_130_15, pA_141, pbs, hL o ho, hL i hi, pb_cS hi, pb_cS ho, pb_cmpE, pb_l1', hone, nI_add]
    rw [if_neg (show ¬ 40 ≤ i from by omega)]
    cases ld_n A 40 o i <;> cases ld_n A 40 i o <;> simp) (by
    intro n a
    rw [f_X9_componentOf_b5, if_pos (by decide)]) 0 hb_FU (by decide)
  refine hl.trans ?_
  rw [pm_fold_set]
end RAN
/-! components are classes of objects that lead to one another -/
section CMP
variable {A : Nat → Nat → Nat}
set_option maxRecDepth 8192 in
theorem ld_mono (A : Nat → Nat → Nat) : ∀ n o t, ld_n A 0 o t = true → ld_n A n o t = true
  | 0, _, _, h => h
  | n + 1, o, t, h => by
    show (ld_n A n o t || (ld_n A n o n && ld_n A n n t)) = true
    rw [ld_mono A n o t h]
    rfl
set_option maxRecDepth 8192 in
theorem ld_trans (A : Nat → Nat → Nat) : ∀ n v o t, v < n → ld_n A n o v = true → ld_n A n v t = true → ld_n A n o t = true := by
  intro n
  induction n with
  | zero => intro v o t h; omega
  | succ n ih =>
    intro v o t hv h1 h2
    have s : ∀ x y, ld_n A (n + 1) x y = (ld_n A n x y || (ld_n A n x n && ld_n A n n y)) := fun _ _ => rfl
    rw [s] at h1 h2 ⊢
    simp only [Bool.or_eq_true, Bool.and_eq_true] at h1 h2 ⊢
    by_cases e : v = n
    · subst e
      rcases h1 with h1 | h1
      · rcases h2 with h2 | h2
        · exact Or.inr ⟨h1, h2⟩
        · exact Or.inr ⟨h1, h2.2⟩
      · rcases h2 with h2 | h2
        · exact Or.inr ⟨h1.1, h2⟩
        · exact Or.inr ⟨h1.1, h2.2⟩
    · have hv2 : v < n := by omega
      rcases h1 with h1 | h1
      · rcases h2 with h2 | h2
        · exact Or.inl (ih v o t hv2 h1 h2)
        · exact Or.inr ⟨ih v o n hv2 h1 h2.1, h2.2⟩
      · rcases h2 with h2 | h2
        · exact Or.inr ⟨h1.1, ih v n t hv2 h1.2 h2⟩
        · exact Or.inr ⟨h1.1, h2.2⟩
set_option maxRecDepth 8192 in
theorem ld_self {o : Nat} (ha : A o 0 ≠ 0) : ld_n A 40 o o = true := ld_mono A 40 o o (by simp [ld_n, ld_0, pa_al, ha])
set_option maxRecDepth 8192 in
theorem ld_c_low {o : Nat} (ha : A o 0 ≠ 0) : ∃ q, ld_c (ld_n A 40) o = q + 1 ∧ q ≤ o ∧ (ld_n A 40 o q && ld_n A 40 q o) = true ∧ ∀ j, j < q → (ld_n A 40 o j && ld_n A 40 j o) = false := by
  have hs := ld_self ha
  have he : ld_c (ld_n A 40) o = pf1 (fun x => ld_n A 40 o x && ld_n A 40 x o) (o + 1) := rfl
  cases e : pf1 (fun x => ld_n A 40 o x && ld_n A 40 x o) (o + 1) with
  | zero =>
    have := pf1_none e o (by omega)
    simp [hs] at this
  | succ q =>
    obtain ⟨h1, h2, h3⟩ := pf1_some e
    exact ⟨q, by rw [he, e], by omega, h2, h3⟩
set_option maxRecDepth 8192 in
theorem ld_al (w : pa_wf A) : ∀ n, n ≤ 40 → ∀ o t, o < 40 → t < 40 → ld_n A n o t = true → A o 0 ≠ 0 ∧ A t 0 ≠ 0
  | 0, _, o, t, ho, ht, h => by
    have h : (pa_al A o && (decide (t = o) || pa_e A pg_00 o t)) = true := h
    simp only [Bool.and_eq_true, Bool.or_eq_true, decide_eq_true_eq] at h
    have ha : A o 0 ≠ 0 := by simpa [pa_al] using h.1
    refine ⟨ha, ?_⟩
    rcases h.2 with h2 | h2
    · rw [h2]; exact ha
    · exact (pa_e_al w ho h2).2
  | n + 1, hn, o, t, ho, ht, h => by
    have h : (ld_n A n o t || (ld_n A n o n && ld_n A n n t)) = true := h
    simp only [Bool.or_eq_true, Bool.and_eq_true] at h
    rcases h with h | h
    · exact ld_al w n (by omega) o t ho ht h
    · exact ⟨(ld_al w n (by omega) o n ho (by omega) h.1).1, (ld_al w n (by omega) n t (by omega) ht h.2).2⟩
set_option maxRecDepth 8192 in
theorem ld_size (w : pa_wf A) {o : Nat} (ho : o < 40) (ha : A o 0 ≠ 0) : fb_ct (fun b => decide (ld_c (ld_n A 40) b = ld_c (ld_n A 40) o)) 40 = fb_ct (fun b => ld_n A 40 o b && ld_n A 40 b o) 40 := by
  apply fb_ct_cong
  intro b hb
  obtain ⟨q, q1, q2, q3, q4⟩ := ld_c_low ha
  simp only [Bool.and_eq_true] at q3
  by_cases hB : A b 0 = 0
  · have h0 : ld_c (ld_n A 40) b = 0 := by
      refine pf1_eq0 (p := fun x => ld_n A 40 b x && ld_n A 40 x b) (n := b + 1) (fun j hj => ?_)
      cases e : ld_n A 40 b j
      · rfl
      · exact absurd hB (ld_al w 40 (Nat.le_refl 40) b j hb (by omega) e).1
    have h1 : ld_n A 40 o b = false := by
      cases e : ld_n A 40 o b
      · rfl
      · exact absurd hB (ld_al w 40 (Nat.le_refl 40) o b ho hb e).2
    rw [h0, q1, h1]
    simp
  · obtain ⟨p, p1, p2, p3, p4⟩ := ld_c_low hB
    simp only [Bool.and_eq_true] at p3
    rw [q1, p1]
    apply Bool.eq_iff_iff.mpr
    simp only [decide_eq_true_eq, Bool.and_eq_true]
    constructor
    · intro e
      have e : p = q := by omega
      subst e
      exact ⟨ld_trans A 40 p o b (by omega) q3.1 p3.2, ld_trans A 40 p b o (by omega) p3.1 q3.2⟩
    · rintro ⟨h1, h2⟩
      have a1 : ¬ q < p := fun hlt => by
        have := p4 q hlt
        rw [ld_trans A 40 o b q ho h2 q3.1, ld_trans A 40 o q b ho q3.2 h1] at this
        cases this
      have a2 : ¬ p < q := fun hlt => by
        have := q4 p hlt
        rw [ld_trans A 40 b o p hb h1 p3.1, ld_trans A 40 b p o hb p3.2 h2] at this
        cases this
      omega
end CMP
