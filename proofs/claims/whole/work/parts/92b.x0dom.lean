/-! the class finds dominators -/
def prow {α : Type} (I : Nat → Nat → α) (a n : Nat) (f : Nat → α) : Nat → Nat → α := fun b j => if b = a ∧ j < n then f j else I b j
set_option maxRecDepth 8192 in
theorem prow_up {α : Type} (I : Nat → Nat → α) (a n : Nat) (f : Nat → α) : up2 (prow I a n f) a n (f n) = prow I a (n + 1) f := by
  funext b j
  unfold up2 prow
  by_cases e1 : b = a
  · by_cases e2 : j = n
    · rw [if_pos ⟨e1, e2⟩, if_pos ⟨e1, by omega⟩, e2]
    · rw [if_neg (by omega)]
      by_cases e3 : j < n
      · rw [if_pos ⟨e1, e3⟩, if_pos ⟨e1, by omega⟩]
      · rw [if_neg (by omega), if_neg (by omega)]
  · rw [if_neg (by omega), if_neg (by omega), if_neg (by omega)]
set_option maxRecDepth 8192 in
theorem prow_0 {α : Type} (I : Nat → Nat → α) (a : Nat) (f : Nat → α) : prow I a 0 f = I := by
  funext b j
  unfold prow
  rw [if_neg (by omega)]
set_option maxRecDepth 8192 in
theorem prow_ne {α : Type} {I : Nat → Nat → α} {a n b j : Nat} {f : Nat → α} (h : b ≠ a) : prow I a n f b j = I b j := by simp [prow, h]
set_option maxRecDepth 8192 in
theorem prow_in {α : Type} {I : Nat → Nat → α} {a n j : Nat} {f : Nat → α} (h : j < n) : prow I a n f a j = f j := by simp [prow, h]
set_option maxRecDepth 8192 in
theorem prow_cong {α : Type} {I : Nat → Nat → α} {a n : Nat} {f g : Nat → α} (h : ∀ j, j < n → f j = g j) : prow I a n f = prow I a n g := by
  funext b j
  unfold prow
  by_cases e : b = a ∧ j < n
  · rw [if_pos e, if_pos e, h j e.2]
  · rw [if_neg e, if_neg e]
def pl_D (L : Nat → Nat → Int64) (a : Nat) (D : Nat → Nat → Bool) : Nat → Nat → Int64 := fun b j => if b = a ∧ j < 40 then hb_mk (D j) else L b j
set_option maxRecDepth 8192 in
theorem pl_D_in {L : Nat → Nat → Int64} {a : Nat} {D : Nat → Nat → Bool} {j : Nat} (h : j < 40) : pl_D L a D a j = hb_mk (D j) := by simp [pl_D, h]
set_option maxRecDepth 8192 in
theorem pl_D_ne {L : Nat → Nat → Int64} {a : Nat} {D : Nat → Nat → Bool} {b j : Nat} (h : b ≠ a) : pl_D L a D b j = L b j := by simp [pl_D, h]
set_option maxRecDepth 8192 in
theorem pl_D_up {L : Nat → Nat → Int64} {a : Nat} {D : Nat → Nat → Bool} {t : Nat} {p : Nat → Bool} (h : t < 40) : up2 (pl_D L a D) a t (hb_mk p) = pl_D L a (fun o => if o = t then p else D o) := by
  funext b j
  unfold up2 pl_D
  by_cases e1 : b = a
  · by_cases e2 : j = t
    · rw [if_pos ⟨e1, e2⟩, if_pos ⟨e1, by omega⟩]
      show hb_mk p = hb_mk (if j = t then p else D j)
      rw [if_pos e2]
    · rw [if_neg (by omega)]
      by_cases e3 : j < 40
      · rw [if_pos ⟨e1, e3⟩, if_pos ⟨e1, e3⟩]
        show hb_mk (D j) = hb_mk (if j = t then p else D j)
        rw [if_neg e2]
      · rw [if_neg (by omega), if_neg (by omega)]
  · rw [if_neg (by omega), if_neg (by omega), if_neg (by omega)]
set_option maxRecDepth 8192 in
theorem dm_place_or (A : Nat → Nat → Nat) (p : Nat) (c : Bool) (D : Nat → Nat → Bool) : dm_place A p (c, D) = (c || (dm_place A p (false, D)).1, (dm_place A p (false, D)).2) := by
  unfold dm_place
  have key : ∀ k, pm_fold (dm_slot A p) k (c, D) = (c || (pm_fold (dm_slot A p) k (false, D)).1, (pm_fold (dm_slot A p) k (false, D)).2) := by
    intro k
    induction k with
    | zero => simp [pm_fold]
    | succ k ih =>
      show dm_slot A p k (pm_fold (dm_slot A p) k (c, D)) = (c || (dm_slot A p k (pm_fold (dm_slot A p) k (false, D))).1, (dm_slot A p k (pm_fold (dm_slot A p) k (false, D))).2)
      rw [ih]
      unfold dm_slot
      by_cases e : pa_rf A (p * 8 + k) = 0
      · rw [if_pos e, if_pos e]
      · rw [if_neg e, if_neg e]
        simp only [Bool.or_assoc]
  exact key 8
set_option maxRecDepth 8192 in
theorem bI_or (a b : Bool) : bI a ||| bI b = bI (a || b) := by cases a <;> cases b <;> decide
section X0D
variable {I : Nat → Nat → Int32} {L : Nat → Nat → Int64} {r : Nat → Option Nat} {A : Nat → Nat → Nat} {h : Nat}
set_option maxRecDepth 8192 in
theorem x0_narrow (hf : pa_refs I A) (w : pa_wf A) {p : Nat} (hp : p < 40) (D : Nat → Nat → Bool) : f_X0_narrowTargets 12 (nI p) (pm I (pl_D L 22 D) r) = some (bI (dm_place A p (false, D)).1, pm I (pl_D L 22 (dm_place A p (false, D)).2) r) := by
  unfold f_X0_narrowTargets
  have hl := pm_loop (fun n (a : Bool × (Nat → Nat → Bool)) i => f_X0_narrowTargets_b4 n 12 (nI p) (bI a.1) (nI i) (pm I (pl_D L 22 a.2) r)) (dm_slot A p) 8 (out := fun a => some (bI a.1, pm I (pl_D L 22 a.2) r)) (by
    rintro n ⟨c, D⟩ i hi
    have hle := pa_rf_le w hp hi
    have hrf := hf (p * 8 + i) (by omega)
    simp (disch := omega) only [f_X0_narrowTargets_b4, f_X0_narrowTargets_b87, f_X0_narrowTargets_b76, plit, pk_mul, nI_add, pn_le, pA_21, pR_12_3, pR_12_4, pbs, hrf, mI_neg]
    rw [if_neg (show ¬ 8 ≤ i from by omega)]
    unfold dm_slot
    by_cases e : pa_rf A (p * 8 + i) = 0
    · rw [if_pos e, if_pos e]
    · obtain ⟨t, ht⟩ : ∃ t, pa_rf A (p * 8 + i) = t + 1 := ⟨pa_rf A (p * 8 + i) - 1, by omega⟩
      rw [if_neg e, if_neg e]
      simp only [ht, Nat.add_sub_cancel, mI_s]
      simp (disch := omega) only [pn_le, pR_12_4, pA_22, pbs, pl_D_in, x8_memberN, pb_or, pb_and, pb_cmp0, pS_22, pl_D_up]
      rw [if_neg (show ¬ 40 ≤ t from by omega)]
      have e1 : (fun o => if o = t then (fun j => D t j && (D p j || decide (j = t))) else D o) = dm_nar D p t := by
        funext o a
        unfold dm_nar
        by_cases e2 : o = t
        · rw [if_pos e2, if_pos e2]
        · rw [if_neg e2, if_neg e2]
      rw [e1]
      by_cases c2 : hb_mk (fun j => D t j && (D p j || decide (j = t))) = hb_mk (D t)
      · rw [if_pos c2]
        simp only [c2, decide_true, Bool.not_true, ← bI_f, bI_or]
      · rw [if_neg c2]
        simp only [c2, decide_false, Bool.not_false, ← bI_t, bI_or]) (by
    intro n a
    rw [f_X0_narrowTargets_b4, if_pos (by decide)]
    exact pz_zr) (false, D) hb_FU (by decide)
  exact hl
set_option maxRecDepth 8192 in
theorem x0_dominators (hh : pm_hp h) (h1 : h = 1) (hR : ph_rep I h A) (hf : pa_refs I A) (w : pa_wf A) {G : bs_T} (hG : bs_fin (bs_E (pg_E A pg_0 pg_00) (pg_S A pg_0 pg_0)) G) (hm : bs_mem I 13 G) (hL : L 13 4 = hb_mk (bs_f G)) : f_X0_findDominators 12 (pm I L r) = some (pm I (pl_D L 22 (pd_D A)) r) := by
  have hfound : ∀ o, o < 40 → bs_f G o = pg_b A pg_0 pg_00 pg_0 o := by
    intro o ho
    apply Bool.eq_iff_iff.mpr
    unfold bs_f pg_b
    rw [pr_b_iff, decide_eq_true_eq]
    constructor
    · exact bs_R hG ho
    · intro hr
      exact (bs_all hG (fun s h => pg_S_lt s h) (fun a b h => pg_E_lt w a b h) hr).2
  have hG2 := id hG
  obtain ⟨k, hk, hinv⟩ := hG2
  have hc41 := bs_c41 hinv
  have hod : ∀ i, i < G.1 - 1 → G.2.1 (i + 1) < 40 ∧ pg_b A pg_0 pg_00 pg_0 (G.2.1 (i + 1)) = true := by
    intro i hi
    obtain ⟨q1, q2, -⟩ := hinv.2.1 (i + 1) (by omega) (by omega)
    refine ⟨q1, ?_⟩
    rw [← hfound _ q1]
    unfold bs_f
    exact decide_eq_true q2
  have hall : ∀ o, o < 40 → pg_b A pg_0 pg_00 pg_0 o = true → ∃ j, j < G.1 - 1 ∧ G.2.1 (j + 1) = o := by
    intro o ho hr
    rw [← hfound o ho] at hr
    unfold bs_f at hr
    obtain ⟨j, q1, q2, q3⟩ := hinv.2.2.1 o ho (of_decide_eq_true hr)
    exact ⟨j - 1, by omega, by rw [show j - 1 + 1 = j from by omega]; exact q3⟩
  have hhR : hb_getR (pm I L r) 12 0 0 = some h := by rw [h1]; exact pR_12_0
  unfold f_X0_findDominators
  simp only [hhR, pbs, pO_h hh, x4_allRoots hh hR w]
  -- the rounds
  have hrounds : ∀ s : Bool × (Nat → Nat → Bool), dm_inv A 0 s → pw_w (f_X0_findDominators_b77 hb_FU 12 (bI s.1) (0 : Int32) (pm I (pl_D L 22 s.2) r)) (fun x => x = pm I (pl_D L 22 (pd_D A)) r) := by
    intro s hs
    refine pm_for (fun n (a : Bool × (Nat → Nat → Bool)) i => f_X0_findDominators_b77 n 12 (bI a.1) (nI i) (pm I (pl_D L 22 a.2) r)) (fun i a => dm_inv A i a) (fun x => x = pm I (pl_D L 22 (pd_D A)) r) 41 ?_ ?_ hb_FU 0 s (by decide) (by decide) hs
    · rintro n ⟨c, D⟩ i hi hinv9
      rw [f_X0_findDominators_b77]
      cases c with
      | false =>
        left
        simp (disch := omega) only [plit, pn_lt, bI_f, if_true]
        rw [if_neg (show ¬ 40 < i from by omega)]
        refine hw_some.mpr ?_
        congr 1
        funext b j
        unfold pl_D
        by_cases e : b = 22 ∧ j < 40
        · rw [if_pos e, if_pos e]
          exact pb_congr (fun a ha => dm_fin w hinv9 (Or.inr rfl) e.2 ha)
        · rw [if_neg e, if_neg e]
      | true =>
        right
        refine ⟨dm_round A G.2.1 (G.1 - 1) (false, D), ?_, dm_inv_step w hod hall hinv9⟩
        have h10 : ¬ (bI true = nI 0) := by decide
        simp (disch := omega) only [plit, pn_lt, h10, if_false]
        rw [if_neg (show ¬ 40 < i from by omega)]
        have hl := pm_loop (fun m (a : Bool × (Nat → Nat → Bool)) j => f_X0_findDominators_b93 (f_X0_findDominators_b77 n) m 12 (bI a.1) (nI i) (nI j) (pm I (pl_D L 22 a.2) r)) (fun j s => dm_place A (G.2.1 (j + 1)) s) (G.1 - 1) (out := fun a => f_X0_findDominators_b77 n 12 (bI a.1) (nI (i + 1)) (pm I (pl_D L 22 a.2) r)) (by
          rintro m ⟨c, D⟩ j hj
          have hordj := hm.2.1 (j + 1) (by omega) (by omega)
          rw [Nat.add_sub_cancel] at hordj
          simp (disch := omega) only [f_X0_findDominators_b93, pR_12_1, pI_13_3, hm.1, plit, pn_le, pbs, pR_13_0, pA_14, show I 14 j = nI (G.2.1 (j + 1)) from hordj, pO_12, x0_narrow hf w (hod j hj).1, nI_add, bI_or]
          rw [if_neg (show ¬ G.1 - 1 ≤ j from by omega), if_neg (show ¬ 40 ≤ j from by omega)]
          rw [dm_place_or A _ c D]) (by
          intro m a
          simp (disch := omega) only [f_X0_findDominators_b93, f_X0_findDominators_b135, pR_12_1, pI_13_3, hm.1, plit, pn_le, pbs, Nat.le_refl, if_true, nI_add]) (false, D) hb_FU (Nat.lt_of_le_of_lt (show G.1 - 1 ≤ 40 from by omega) (by decide))
        exact hl
    · rintro n ⟨c, D⟩ hinv9
      rw [f_X0_findDominators_b77]
      simp (disch := omega) only [plit, pn_lt]
      rw [if_pos (show 40 < 41 from by decide)]
      refine hw_some.mpr ?_
      congr 1
      funext b j
      unfold pl_D
      by_cases e : b = 22 ∧ j < 40
      · rw [if_pos e, if_pos e]
        exact pb_congr (fun a ha => dm_fin w hinv9 (Or.inl (by decide)) e.2 ha)
      · rw [if_neg e, if_neg e]
  -- what they begin with
  have hl := pm_seq (fun n (a : Nat → Nat → Int64) i => f_X0_findDominators_b10 n 12 (hb_mk (pa_r A)) (nI i) (pm I a r)) (fun i => prow L 22 i (fun j => hb_mk (dm_D0 A (bs_f G) j))) 40 (out := f_X0_findDominators_b77 hb_FU 12 (bI true) (0 : Int32) (pm I (pl_D L 22 (dm_D0 A (bs_f G))) r)) (by
    intro n i hi
    simp (disch := omega) only [f_X0_findDominators_b10, f_X0_findDominators_b65, plit, pn_le, pbs, pR_12_1, pI_13_4, prow_ne, hL, x8_containsN hi, pR_12_4, bIn, x8_memberN hi, pS_22, nI_add]
    rw [if_neg (show ¬ 40 ≤ i from by omega)]
    have hup : ∀ v : Int64, v = hb_mk (dm_D0 A (bs_f G) i) → up2 (prow L 22 i (fun j => hb_mk (dm_D0 A (bs_f G) j))) 22 i v = prow L 22 (i + 1) (fun j => hb_mk (dm_D0 A (bs_f G) j)) := by
      intro v hv
      rw [hv]
      exact prow_up L 22 i (fun j => hb_mk (dm_D0 A (bs_f G) j))
    cases e1 : pa_r A i
    · cases e2 : bs_f G i
      · simp only [if_true]
        rw [hup 0 (by rw [← pb_0]; exact pb_congr (fun a _ => by simp [dm_D0, e1, e2]))]
      · simp only [if_true, Bool.true_eq_false, if_false]
        rw [hup (hb_mk (bs_f G)) (pb_congr (fun a _ => by simp [dm_D0, e1, e2]))]
    · simp only [Bool.true_eq_false, if_false]
      rw [hup _ (pb_congr (fun a _ => by simp [dm_D0, e1]))]) (by
    intro n
    rw [f_X0_findDominators_b10, if_pos (by decide)]
    rfl) hb_FU (by decide)
  simp only [prow_0] at hl
  refine hl.trans (hw_the (hrounds (true, dm_D0 A (bs_f G)) (dm_inv0 w hfound)))
end X0D
