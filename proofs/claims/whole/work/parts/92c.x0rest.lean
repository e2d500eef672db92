/-! the class: immediate dominators, retained sizes, counts, what leads to what -/
set_option maxRecDepth 8192 in
theorem up2_up2 {α : Type} (I : Nat → Nat → α) (a j : Nat) (x y : α) : up2 (up2 I a j x) a j y = up2 I a j y := by
  funext b i
  unfold up2
  by_cases e : b = a ∧ i = j
  · rw [if_pos e, if_pos e]
  · rw [if_neg e, if_neg e, if_neg e]
/-- the immediate dominator, one more (0: none) -/
def pi_im (D : Nat → Nat → Bool) (o n : Nat) : Nat := pm_fold (fun x acc => if (D o x && decide (fb_ct (D x) 40 + 1 = fb_ct (D o) 40)) = true then x + 1 else acc) n 0
set_option maxRecDepth 8192 in
theorem pi_im_le (D : Nat → Nat → Bool) (o n : Nat) : pi_im D o n ≤ n := pm_fold_inv (fun x acc => if (D o x && decide (fb_ct (D x) 40 + 1 = fb_ct (D o) 40)) = true then x + 1 else acc) (fun k a => a ≤ k) n 0 (Nat.le_refl 0) (by
  intro i b hi hb
  split <;> omega)
set_option maxRecDepth 8192 in
theorem pi_im_0 {D : Nat → Nat → Bool} {o : Nat} (hx : ∀ x, x < 40 → D o x = true → D x x = true) (h : fb_ct (D o) 40 ≤ 1) (n : Nat) (hn : n ≤ 40) : pi_im D o n = 0 := by
  refine pm_fold_inv (fun x acc => if (D o x && decide (fb_ct (D x) 40 + 1 = fb_ct (D o) 40)) = true then x + 1 else acc) (fun k a => a = 0) n 0 rfl ?_
  intro i b hi hb
  rw [if_neg]
  · exact hb
  · intro hc
    simp only [Bool.and_eq_true, decide_eq_true_eq] at hc
    have : 0 < fb_ct (D i) 40 := fb_ct_pos.mpr ⟨i, by omega, hx i (by omega) hc.1⟩
    omega
section X0E
variable {I : Nat → Nat → Int32} {L : Nat → Nat → Int64} {r : Nat → Option Nat} {A : Nat → Nat → Nat} {h : Nat}
set_option maxRecDepth 8192 in
theorem x0_immediate {D : Nat → Nat → Bool} (hD : ∀ o x, o < 40 → x < 40 → D o x = true → D x x = true) : f_X0_findImmediate 12 (pm I (pl_D L 22 D) r) = some (pm (prow I 23 40 (fun o => mI (pi_im D o 40))) (pl_D L 22 D) r) := by
  unfold f_X0_findImmediate
  have hl := pm_seq (fun n a i => f_X0_findImmediate_b2 n 12 (nI i) (pm a (pl_D L 22 D) r)) (fun i => prow I 23 i (fun o => mI (pi_im D o 40))) 40 (out := some (pm (prow I 23 40 (fun o => mI (pi_im D o 40))) (pl_D L 22 D) r)) (by
    intro n i hi
    simp (disch := omega) only [f_X0_findImmediate_b2, plit, pn_le, pbs, pR_12_5, pS_23, pR_12_4, pA_22, pl_D_in, pc_bitCount]
    rw [if_neg (show ¬ 40 ≤ i from by omega)]
    have hct := fb_ct_le (D i) 40
    have hout : pm (up2 (prow I 23 i (fun o => mI (pi_im D o 40))) 23 i (mI (pi_im D i 40))) (pl_D L 22 D) r = pm (prow I 23 (i + 1) (fun o => mI (pi_im D o 40))) (pl_D L 22 D) r := by rw [prow_up I 23 i (fun o => mI (pi_im D o 40))]
    rw [← mI_0]
    by_cases hd : fb_ct (D i) 40 ≤ 1
    · have hz := pi_im_0 (fun x hx => hD i x hi hx) hd 40 (Nat.le_refl 40)
      obtain ⟨F9, hF9⟩ : ∃ F, hb_FU = F + 1 := ⟨4095, rfl⟩
      rw [hF9, f_X0_findImmediate_b27]
      simp (disch := omega) only [f_X0_findImmediate_b79, plit, pn_le, nI_add]
      rw [if_neg (show ¬ 40 ≤ 0 from by decide), if_pos hd, ← hout, hz]
    · have hin := pm_seq (fun m a x => f_X0_findImmediate_b27 (f_X0_findImmediate_b2 n) m 12 (nI i) (nI (fb_ct (D i) 40)) (nI x) (pm a (pl_D L 22 D) r)) (fun x => up2 (prow I 23 i (fun o => mI (pi_im D o 40))) 23 i (mI (pi_im D i x))) 40 (out := f_X0_findImmediate_b2 n 12 (nI (i + 1)) (pm (prow I 23 (i + 1) (fun o => mI (pi_im D o 40))) (pl_D L 22 D) r)) (by
        intro m x hx
        have hctx := fb_ct_le (D x) 40
        simp (disch := omega) only [f_X0_findImmediate_b27, f_X0_findImmediate_b73, plit, pn_le, pbs, pR_12_4, pA_22, pl_D_in, x8_containsN hx, bIn, pc_bitCount, pn_pred, pn_eq, pR_12_5, pS_23, up2_up2, nI_add]
        rw [if_neg (show ¬ 40 ≤ x from by omega), if_neg hd]
        have hst : pi_im D i (x + 1) = if (D i x && decide (fb_ct (D x) 40 + 1 = fb_ct (D i) 40)) = true then x + 1 else pi_im D i x := rfl
        rw [hst]
        cases e1 : D i x
        · simp
        · by_cases e2 : fb_ct (D x) 40 = fb_ct (D i) 40 - 1
          · have e3 : fb_ct (D x) 40 + 1 = fb_ct (D i) 40 := by omega
            simp only [e2, if_true, Bool.true_eq_false, if_false]
            rw [if_pos (by simp; omega), mI_s]
          · have e3 : ¬ fb_ct (D x) 40 + 1 = fb_ct (D i) 40 := by omega
            simp only [e2, e3, if_false, Bool.true_eq_false, decide_false, Bool.and_false, Bool.false_eq_true]) (by
        intro m
        rw [f_X0_findImmediate_b27, if_pos (by decide)]
        unfold f_X0_findImmediate_b79
        simp only [plit, nI_add]
        rw [hout]) hb_FU (by decide)
      exact hin) (by
    intro n
    rw [f_X0_findImmediate_b2, if_pos (by decide)]) hb_FU (by decide)
  simp only [prow_0] at hl
  exact hl
set_option maxRecDepth 8192 in
theorem x0_dominatedBy {D : Nat → Nat → Bool} {o : Nat} (ho : o < 40) : f_X0_dominatedBy 12 (nI o) (pm I (pl_D L 22 D) r) = some (hb_mk (fun x => D x o), pm I (pl_D L 22 D) r) := by
  unfold f_X0_dominatedBy
  have hl := pm_loop (fun n a i => f_X0_dominatedBy_b5 n 12 (nI o) a (nI i) (pm I (pl_D L 22 D) r)) (fun i a => a ||| (if D i o = true then hb_mk (fun j => decide (j = i)) else 0)) 40 (out := fun a => some (a, pm I (pl_D L 22 D) r)) (by
    intro n a i hi
    simp (disch := omega) only [f_X0_dominatedBy_b5, f_X0_dominatedBy_b36, plit, pn_le, pbs, pR_12_4, pA_22, pl_D_in, x8_containsN ho, x8_memberN hi, bIn, nI_add]
    rw [if_neg (show ¬ 40 ≤ i from by omega)]
    cases D i o <;> simp) (by
    intro n a
    rw [f_X0_dominatedBy_b5, if_pos (by decide)]) 0 hb_FU (by decide)
  refine hl.trans ?_
  rw [pm_fold_set (fun x => D x o)]
/-- what an object retains -/
noncomputable def pd_rt (A : Nat → Nat → Nat) (o : Nat) : Nat := fb_sm (fun x => if pd_D A x o then pa_so A x else 0) 40
set_option maxRecDepth 8192 in
theorem pd_al (w : pa_wf A) {x o : Nat} (h : pd_D A x o = true) : A x 0 ≠ 0 := (pg_b_al w (pd_R h)).2
/-! only what is reached dominates -/
set_option maxRecDepth 8192 in
theorem pd_self (w : pa_wf A) {o a : Nat} (ha : a < 40) (h : pd_D A o a = true) : pd_D A a a = true ∧ pg_b A pg_0 pg_00 pg_0 a = true := by
  have hRa : pg_b A pg_0 pg_00 pg_0 a = true := by
    cases e : pg_b A pg_0 pg_00 pg_0 a
    · exfalso
      have hn := pr_b_not.mp e
      unfold pd_D at h
      simp only [Bool.and_eq_true, Bool.not_eq_true'] at h
      apply pr_b_not.mp h.2
      have hR := pr_b_iff.mp h.1
      have key : pr_R (pg_E A pg_0 pg_00) (pg_S A pg_0 pg_0) o ∧ pr_R (pg_E A (fun x => decide (x = a)) pg_00) (pg_S A (fun x => decide (x = a)) pg_0) o := by
        refine hR (fun o => pr_R (pg_E A pg_0 pg_00) (pg_S A pg_0 pg_0) o ∧ pr_R (pg_E A (fun x => decide (x = a)) pg_00) (pg_S A (fun x => decide (x = a)) pg_0) o) ?_ ?_
        · intro s hs
          refine ⟨pr_start hs, pr_start ?_⟩
          have hne : ¬ s = a := fun e => hn (by rw [← e]; exact pr_start hs)
          unfold pg_S at hs ⊢
          simp only [Bool.and_eq_true] at hs ⊢
          exact ⟨hs.1, by simp [hne]⟩
        · rintro x y ⟨h1, h2⟩ he
          refine ⟨pr_step h1 he, pr_step h2 ?_⟩
          have hne : ¬ y = a := fun e => hn (by rw [← e]; exact pr_step h1 he)
          unfold pg_E at he ⊢
          simp only [Bool.and_eq_true] at he ⊢
          exact ⟨he.1, by simp [hne]⟩
      exact key.2
    · rfl
  refine ⟨?_, hRa⟩
  unfold pd_D
  simp only [Bool.and_eq_true, Bool.not_eq_true']
  refine ⟨hRa, pr_b_not.mpr ?_⟩
  intro hr
  have : (fun x => x ≠ a) a := hr (fun x => x ≠ a) (fun s hs => by
    unfold pg_S at hs
    simp only [Bool.and_eq_true, Bool.not_eq_true', decide_eq_false_iff_not] at hs
    exact hs.2) (fun x y _ he => by
    unfold pg_E at he
    simp only [Bool.and_eq_true, Bool.not_eq_true', decide_eq_false_iff_not] at he
    exact he.2)
  exact this rfl
set_option maxRecDepth 8192 in
theorem pd_rt_un (w : pa_wf A) {o : Nat} (ho : o < 40) (h : pg_b A pg_0 pg_00 pg_0 o = false) : pd_rt A o = 0 := by
  unfold pd_rt
  rw [fb_sm_cong (g := fun _ => 0) (fun x hx => by
    cases e : pd_D A x o
    · rfl
    · have := (pd_self w ho e).2
      rw [h] at this
      cases this)]
  rw [fb_sm_const]
set_option maxRecDepth 8192 in
theorem x0_retained (hh : pm_hp h) (h1 : h = 1) (hR : ph_rep I h A) (w : pa_wf A) (hL : L 13 4 = hb_mk (pg_b A pg_0 pg_00 pg_0)) : f_X0_findRetained 12 (pm I (pl_D L 22 (pd_D A)) r) = some (pm (prow I 24 40 (fun o => nI (pd_rt A o))) (pl_D L 22 (pd_D A)) r) := by
  unfold f_X0_findRetained
  have hl := pm_seq (fun n a i => f_X0_findRetained_b2 n 12 (nI i) (pm a (pl_D L 22 (pd_D A)) r)) (fun i => prow I 24 i (fun o => nI (pd_rt A o))) 40 (out := some (pm (prow I 24 40 (fun o => nI (pd_rt A o))) (pl_D L 22 (pd_D A)) r)) (by
    intro n i hi
    have hRi : ph_rep (prow I 24 i (fun o => nI (pd_rt A o))) h A := by
      have e : ∀ a, a ≠ 24 → prow I 24 i (fun o => nI (pd_rt A o)) a = I a := fun a ha => by
        funext j
        exact prow_ne ha
      unfold ph_rep
      rw [e h (by omega), e (h + 1) (by omega), e (h + 2) (by omega), e (h + 3) (by omega), e (h + 4) (by omega), e (h + 5) (by omega), e (h + 6) (by omega), e (h + 7) (by omega), e (h + 8) (by omega), e (h + 9) (by omega), e (h + 10) (by omega)]
      exact hR
    have hhR : ∀ (J : Nat → Nat → Int32) (K : Nat → Nat → Int64), hb_getR (pm J K r) 12 0 0 = some h := fun J K => by rw [h1]; exact pR_12_0
    have hsz := x4_sizeOfAll (L := pl_D L 22 (pd_D A)) (r := r) hh hRi (fun x => pd_D A x i) (fun o _ ho => pd_al w ho)
    simp (disch := omega) only [f_X0_findRetained_b2, f_X0_findRetained_b43, plit, pn_le, pbs, pR_12_6, pR_12_1, pI_13_4, pl_D_ne, hL, x8_containsN hi, bIn, hhR, pO_12, x0_dominatedBy hi, pO_h hh, hsz, pS_24, nI_add]
    rw [if_neg (show ¬ 40 ≤ i from by omega)]
    cases e : pg_b A pg_0 pg_00 pg_0 i
    · simp only [if_true]
      rw [← pd_rt_un w hi e, prow_up I 24 i (fun o => nI (pd_rt A o))]
    · simp only [Bool.true_eq_false, if_false]
      rw [show nI (fb_sm (fun o => if pd_D A o i = true then pa_so A o else 0) 40) = (fun o => nI (pd_rt A o)) i from rfl, prow_up I 24 i (fun o => nI (pd_rt A o))]) (by
    intro n
    rw [f_X0_findRetained_b2, if_pos (by decide)]) hb_FU (by decide)
  simp only [prow_0] at hl
  exact hl
end X0E
