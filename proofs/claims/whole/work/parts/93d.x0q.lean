/-! the class's analysis: what it is asked -/
set_option maxRecDepth 8192 in
theorem pr_rt_le {A : Nat → Nat → Nat} (w : pa_wf A) (p : Nat → Bool) (hp : ∀ o, o < 40 → p o = true → A o 0 ≠ 0) : fb_sm (fun o => if p o then pa_so A o else 0) 40 ≤ 17600 := by
  have := fb_sm_bound (f := fun o => if p o then pa_so A o else 0) (c := 440) (n := 40) (fun k hk => by
    show (if p k = true then pa_so A k else 0) ≤ 440
    split
    · next e => exact pa_so_le w hk (hp k hk e)
    · omega)
  omega
set_option maxRecDepth 8192 in
theorem pd_rt_le {A : Nat → Nat → Nat} (w : pa_wf A) (o : Nat) : pd_rt A o ≤ 17600 := pr_rt_le w (fun x => pd_D A x o) (fun _ _ h => pd_al w h)
noncomputable def px_sz (A : Nat → Nat → Nat) : Nat := fb_sm (fun o => if px_R A o then pa_so A o else 0) 40
set_option maxRecDepth 8192 in
theorem px_sz_le {A : Nat → Nat → Nat} (w : pa_wf A) : px_sz A ≤ 17600 := pr_rt_le w (px_R A) (fun _ _ h => (pg_b_al w h).2)
/-- the immediate dominator, one more -/
noncomputable def px_im (A : Nat → Nat → Nat) (o : Nat) : Nat := pi_im (pd_D A) o 40
set_option maxRecDepth 8192 in
theorem px_im_le (A : Nat → Nat → Nat) (o : Nat) : px_im A o ≤ 40 := pi_im_le _ _ _
noncomputable def px_ch (A : Nat → Nat → Nat) (x : Int32) (b : Nat) : Bool := px_R A b && decide (mI (px_im A b) = x)
noncomputable def px_hv (A : Nat → Nat → Nat) (c : Nat → Bool) (p v o : Nat) : Bool := c o && decide (p * v ≤ pd_rt A o * 100)
noncomputable def px_sus (A : Nat → Nat → Nat) (p o : Nat) : Bool := px_hv A (px_R A) p (px_sz A) o && !pq_any (fun b => px_hv A (px_R A) p (px_sz A) b && decide (px_im A b = o + 1)) 40
/-- the greatest, one more -/
noncomputable def px_gr (A : Nat → Nat → Nat) (c : Nat → Bool) (n : Nat) : Nat := pm_fold (fun x best => if (c x && (decide (best = 0) || decide (pd_rt A (best - 1) < pd_rt A x))) = true then x + 1 else best) n 0
set_option maxRecDepth 8192 in
theorem px_gr_le (A : Nat → Nat → Nat) (c : Nat → Bool) (n : Nat) : px_gr A c n ≤ n := pm_fold_inv (fun x best => if (c x && (decide (best = 0) || decide (pd_rt A (best - 1) < pd_rt A x))) = true then x + 1 else best) (fun k a => a ≤ k) n 0 (Nat.le_refl 0) (by
  intro i b hi hb
  split <;> omega)
noncomputable def px_nx (A : Nat → Nat → Nat) (p o : Nat) : Nat := px_gr A (px_hv A (px_ch A (nI o)) p (pd_rt A o)) 40
noncomputable def px_ac (A : Nat → Nat → Nat) (p : Nat) : Nat → Nat → Nat
  | 0, o => o
  | n + 1, o => if px_nx A p o = 0 then o else px_ac A p n (px_nx A p o - 1)
noncomputable def px_ls (A : Nat → Nat → Nat) (W : Nat → Bool) (q : Nat → Nat → Bool) (u : Nat → Bool) : Nat := fb_sm (fun o => if px_R A o && !pg_b A W q u o then pa_so A o else 0) 40
set_option maxRecDepth 8192 in
theorem bs_X_slot (A : Nat → Nat → Nat) {o s : Nat} (ho : o < 40) (hs : s < 8) : bs_X A (pa_r A) pg_0 (nI (o * 8 + s)) = bs_E (pg_E A pg_0 (pq2 (nI o) (nI s))) (pg_S A pg_0 pg_0) := by
  unfold bs_X
  have e1 : pg_E A pg_0 (pqx (nI (o * 8 + s))) = pg_E A pg_0 (pq2 (nI o) (nI s)) := by
    funext a b
    unfold pg_E
    by_cases ea : a < 40
    · have : pa_e A (pqx (nI (o * 8 + s))) a b = pa_e A (pq2 (nI o) (nI s)) a b := by
        unfold pa_e
        congr 1
        apply pq_any_cong
        intro t ht
        congr 2
        unfold pqx pq2
        rw [← Bool.decide_and]
        apply decide_eq_decide.mpr
        rw [pn_eq (by omega) (by omega), pn_eq (by omega) (by omega), pn_eq (by omega) (by omega)]
        exact ⟨fun _ => by omega, fun _ => by omega⟩
      rw [this]
    · simp [ea]
  rw [e1]
  congr 1
  funext t
  unfold pg_S pg_0
  simp
set_option maxRecDepth 8192 in
theorem bs_X_root (A : Nat → Nat → Nat) (x : Int32) : bs_X A (fun j => pa_r A j && !pq1 x j) pg_0 (-nI 1) = bs_E (pg_E A pg_0 pg_00) (pg_S A pg_0 (pq1 x)) := by
  unfold bs_X
  rw [pg_E_none]
  congr 1
  funext t
  unfold pg_S pg_0
  simp [Bool.and_assoc]
section X0Q
variable {I : Nat → Nat → Int32} {L : Nat → Nat → Int64} {r : Nat → Option Nat} {A : Nat → Nat → Nat}
set_option maxRecDepth 8192 in
theorem px_fr (X : px_an I L A) {J : Nat → Nat → Int32} {K : Nat → Nat → Int64} (h : ∀ a, 12 ≤ a → a ≤ 28 → (a < 17 ∨ 20 < a) → J a = I a ∧ K a = L a) : px_an J K A := by
  have hI : ∀ a, 12 ≤ a → a ≤ 28 → (a < 17 ∨ 20 < a) → J a = I a := fun a h1 h2 h3 => (h a h1 h2 h3).1
  have hL : ∀ a, 12 ≤ a → a ≤ 28 → (a < 17 ∨ 20 < a) → K a = L a := fun a h1 h2 h3 => (h a h1 h2 h3).2
  unfold px_an pa_refs bs_mem at X ⊢
  rw [hI 21 (by omega) (by omega) (by omega), hI 13 (by omega) (by omega) (by omega), hI (13 + 1) (by omega) (by omega) (by omega), hI (13 + 2) (by omega) (by omega) (by omega), hI (13 + 3) (by omega) (by omega) (by omega), hI 12 (by omega) (by omega) (by omega), hI 23 (by omega) (by omega) (by omega), hI 24 (by omega) (by omega) (by omega), hI 25 (by omega) (by omega) (by omega), hI 26 (by omega) (by omega) (by omega), hI 28 (by omega) (by omega) (by omega), hL 13 (by omega) (by omega) (by omega), hL 22 (by omega) (by omega) (by omega), hL 27 (by omega) (by omega) (by omega)]
  exact X
set_option maxRecDepth 8192 in
theorem x0_children (X : px_an I L A) (x : Int32) : f_X0_children 12 x (pm I L r) = some (hb_mk (px_ch A x), pm I L r) := by
  unfold f_X0_children
  have hl := pm_loop (fun n a i => f_X0_children_b5 n 12 x a (nI i) (pm I L r)) (fun i a => a ||| (if px_ch A x i = true then hb_mk (fun j => decide (j = i)) else 0)) 40 (out := fun a => some (a, pm I L r)) (by
    intro n a i hi
    have hX := (X.2.2.2.2 i hi).2.1
    simp (disch := omega) only [f_X0_children_b5, f_X0_children_b42, f_X0_children_b43, f_X0_children_b60, plit, pn_le, pbs, pR_12_1, pI_13_4, X.2.2.1, x8_containsN hi, bIn, pR_12_5, pA_23, hX, x8_memberN hi, nI_add, show (nI 1 = nI 0) = False from eq_false (by decide), if_false, if_true]
    rw [if_neg (show ¬ 40 ≤ i from by omega)]
    unfold px_ch px_im
    cases e1 : px_R A i
    · simp
    · by_cases e2 : mI (pi_im (pd_D A) i 40) = x
      · simp [e2]
      · simp [e2]) (by
    intro n a
    rw [f_X0_children_b5, if_pos (by decide)]) 0 hb_FU (by decide)
  refine hl.trans ?_
  rw [pm_fold_set]
set_option maxRecDepth 8192 in
theorem x0_compSize (X : px_an I L A) {o : Nat} (ho : o < 40) : f_X0_sizeOfComponent 12 (nI o) (pm I L r) = some (nI (fb_ct (fun b => decide (ld_c (ld_n A 40) b = ld_c (ld_n A 40) o)) 40), pm I L r) := by
  have hle : ∀ b, b < 40 → ld_c (ld_n A 40) b ≤ 40 := by
    intro b hb
    unfold ld_c
    split <;> omega
  unfold f_X0_sizeOfComponent
  have hl := pm_loop (fun n a i => f_X0_sizeOfComponent_b4 n 12 (nI o) a (nI i) (pm I L r)) (fun i a => a + nI (pb_b (decide (ld_c (ld_n A 40) i = ld_c (ld_n A 40) o)))) 40 (out := fun a => some (a, pm I L r)) (by
    intro n a i hi
    have h1 := (X.2.2.2.2 i hi).2.2.2.2.2.2
    have h2 := (X.2.2.2.2 o ho).2.2.2.2.2.2
    have l1 := hle i hi
    have l2 := hle o ho
    simp (disch := omega) only [f_X0_sizeOfComponent_b4, f_X0_sizeOfComponent_b31, plit, pn_le, pbs, pR_12_10, pA_28, h1, h2, mI_eq, nI_add]
    rw [if_neg (show ¬ 40 ≤ i from by omega)]
    by_cases e : ld_c (ld_n A 40) i = ld_c (ld_n A 40) o
    · simp [e, pb_b]
    · simp [e, pb_b]) (by
    intro n a
    rw [f_X0_sizeOfComponent_b4, if_pos (by decide)]) (nI 0) hb_FU (by decide)
  refine hl.trans ?_
  rw [pm_fold_sum, Nat.zero_add, pc_ct]
set_option maxRecDepth 8192 in
theorem x0_retAtLeast (X : px_an I L A) (w : pa_wf A) (c : Nat → Bool) {p v : Nat} (hp : p ≤ 100) (hv : v ≤ 17600) : f_X0_retainingAtLeast 12 (hb_mk c) (nI p) (nI v) (pm I L r) = some (hb_mk (px_hv A c p v), pm I L r) := by
  have hpv : p * v ≤ 1760000 := Nat.mul_le_mul hp hv
  unfold f_X0_retainingAtLeast
  have hl := pm_loop (fun n a i => f_X0_retainingAtLeast_b6 n 12 (hb_mk c) (nI p) (nI v) a (nI i) (pm I L r)) (fun i a => a ||| (if px_hv A c p v i = true then hb_mk (fun j => decide (j = i)) else 0)) 40 (out := fun a => some (a, pm I L r)) (by
    intro n a i hi
    have h1 := (X.2.2.2.2 i hi).2.2.1
    have l1 := pd_rt_le w i
    simp (disch := omega) only [f_X0_retainingAtLeast_b6, f_X0_retainingAtLeast_b43, f_X0_retainingAtLeast_b44, f_X0_retainingAtLeast_b62, plit, pn_le, pn_lt, pbs, x8_containsN hi, bIn, pR_12_6, pA_24, h1, pk_mul, x8_memberN hi, nI_add, show (nI 1 = nI 0) = False from eq_false (by decide), if_false, if_true]
    rw [if_neg (show ¬ 40 ≤ i from by omega)]
    unfold px_hv
    cases e1 : c i
    · simp
    · by_cases e2 : p * v ≤ pd_rt A i * 100
      · rw [if_neg (show ¬ true = false from by decide), if_neg (show ¬ pd_rt A i * 100 < p * v from by omega)]
        simp [e2]
      · rw [if_neg (show ¬ true = false from by decide), if_pos (show pd_rt A i * 100 < p * v from by omega)]
        simp [e2]) (by
    intro n a
    rw [f_X0_retainingAtLeast_b6, if_pos (by decide)]) 0 hb_FU (by decide)
  refine hl.trans ?_
  rw [pm_fold_set]
set_option maxRecDepth 8192 in
theorem x0_suspects (X : px_an I L A) (w : pa_wf A) {p : Nat} (hp : p ≤ 100) : f_X0_suspects 12 (nI p) (pm I L r) = some (hb_mk (px_sus A p), pm I L r) := by
  have hsz : I 12 11 = nI (px_sz A) := X.2.2.2.1
  obtain ⟨c, hc⟩ : ∃ c, c = px_hv A (px_R A) p (px_sz A) := ⟨_, rfl⟩
  unfold f_X0_suspects
  simp only [pbs, pR_12_1, pI_13_4, X.2.2.1, pI_12_11, hsz, pO_12, x0_retAtLeast X w (px_R A) hp (px_sz_le w), ← hc]
  have hl := pm_loop (fun n (a : Nat → Bool) i => f_X0_suspects_b23 n 12 (hb_mk c) (hb_mk a) (nI i) (pm I L r)) (fun i a => fun o => a o && !(c i && decide (px_im A i = o + 1))) 40 (out := fun a => some (hb_mk a, pm I L r)) (by
    intro n a i hi
    have h1 := (X.2.2.2.2 i hi).2.1
    have l1 := px_im_le A i
    simp (disch := omega) only [f_X0_suspects_b23, f_X0_suspects_b58, plit, pn_le, pbs, x8_containsN hi, bIn, pR_12_5, pA_23, h1, x8_member, pb_anot, nI_add]
    rw [if_neg (show ¬ 40 ≤ i from by omega)]
    cases e1 : c i
    · simp only [if_true]
      congr 1
      exact pb_congr (fun j _ => by simp)
    · simp only [Bool.true_eq_false, if_false]
      congr 1
      exact pb_congr (fun j hj => by
        have : pq1 (mI (pi_im (pd_D A) i 40)) j = decide (px_im A i = j + 1) := by
          unfold pq1
          apply decide_eq_decide.mpr
          have e9 : (mI (px_im A i) = nI j) = (px_im A i = j + 1) := mI_nI (by omega) (by omega)
          rw [eq_comm]
          exact Eq.to_iff e9
        rw [this]
        simp)) (by
    intro n a
    rw [f_X0_suspects_b23, if_pos (by decide)]) c hb_FU (by decide)
  refine hl.trans ?_
  have hf := pm_fold_inv (fun i (a : Nat → Bool) => fun o => a o && !(c i && decide (px_im A i = o + 1))) (fun k a => ∀ o, a o = (c o && !pq_any (fun b => c b && decide (px_im A b = o + 1)) k)) 40 c (fun o => by simp [pq_any]) (by
    intro i b hi hb o
    show (b o && !(c i && decide (px_im A i = o + 1))) = _
    rw [hb o, pq_any]
    cases c o <;> cases pq_any (fun b => c b && decide (px_im A b = o + 1)) i <;> simp)
  apply pb_some
  intro j _
  rw [hf j, hc]
  rfl
set_option maxRecDepth 8192 in
theorem x0_greatest (X : px_an I L A) (w : pa_wf A) (c : Nat → Bool) : f_X0_greatest 12 (hb_mk c) (pm I L r) = some (mI (px_gr A c 40), pm I L r) := by
  unfold f_X0_greatest
  have hl := pm_seq (fun n (a : Nat) i => f_X0_greatest_b5 n 12 (hb_mk c) (mI a) (nI i) (pm I L r)) (fun i => px_gr A c i) 40 (out := some (mI (px_gr A c 40), pm I L r)) (by
    intro n i hi
    have h1 := (X.2.2.2.2 i hi).2.2.1
    have l1 := pd_rt_le w i
    have hle := px_gr_le A c i
    have hs : px_gr A c (i + 1) = if (c i && (decide (px_gr A c i = 0) || decide (pd_rt A (px_gr A c i - 1) < pd_rt A i))) = true then i + 1 else px_gr A c i := rfl
    simp (disch := omega) only [f_X0_greatest_b5, f_X0_greatest_b42, f_X0_greatest_b45, plit, pn_le, pbs, x8_containsN hi, bIn, mI_none, nI_add]
    rw [if_neg (show ¬ 40 ≤ i from by omega), hs]
    cases e1 : c i
    · simp
    · simp only [Bool.true_eq_false, if_false, Bool.true_and]
      by_cases e2 : px_gr A c i = 0
      · simp [e2, mI_s]
      · obtain ⟨b, hb⟩ : ∃ b, px_gr A c i = b + 1 := ⟨px_gr A c i - 1, by omega⟩
        have h2 := (X.2.2.2.2 b (by omega)).2.2.1
        have l2 := pd_rt_le w b
        rw [if_neg e2]
        simp only [hb, mI_s, Nat.add_sub_cancel]
        simp (disch := omega) only [pR_12_6, pbs, pA_24, h1, h2, pn_le]
        by_cases e3 : pd_rt A b < pd_rt A i
        · rw [if_neg (show ¬ pd_rt A i ≤ pd_rt A b from by omega)]
          simp [e3, mI_s]
        · rw [if_pos (show pd_rt A i ≤ pd_rt A b from by omega)]
          simp [e3, mI_s]) (by
    intro n
    rw [f_X0_greatest_b5, if_pos (by decide)]) hb_FU (by decide)
  exact hl
set_option maxRecDepth 8192 in
theorem x0_acc (X : px_an I L A) (w : pa_wf A) {p : Nat} (hp : p ≤ 100) : ∀ n i o, 40 - i < n → i ≤ 40 → o < 40 → f_X0_accumulationFrom_b5 n 12 (nI p) (nI o) (nI i) (pm I L r) = some (nI (px_ac A p (40 - i) o), pm I L r) := by
  intro n
  induction n with
  | zero => intro i o h; omega
  | succ n ih =>
    intro i o hn hi ho
    rw [f_X0_accumulationFrom_b5]
    by_cases e : i = 40
    · subst e
      rw [if_pos (by decide)]
      rfl
    · obtain ⟨m, hm⟩ : ∃ m, 40 - i = m + 1 := ⟨40 - i - 1, by omega⟩
      have h1 := (X.2.2.2.2 o ho).2.2.1
      have hle : px_nx A p o ≤ 40 := px_gr_le _ _ _
      have hg := x0_greatest (r := r) X w (px_hv A (px_ch A (nI o)) p (pd_rt A o))
      rw [show px_gr A (px_hv A (px_ch A (nI o)) p (pd_rt A o)) 40 = px_nx A p o from rfl] at hg
      simp (disch := omega) only [plit, pn_le, pO_12, x0_children X, pbs, pR_12_6, pA_24, h1, x0_retAtLeast X w _ hp (pd_rt_le w o), hg, mI_none, nI_add]
      rw [if_neg (show ¬ 40 ≤ i from by omega), hm, px_ac]
      by_cases e2 : px_nx A p o = 0
      · rw [if_pos e2, if_pos e2]
      · obtain ⟨b, hb⟩ : ∃ b, px_nx A p o = b + 1 := ⟨px_nx A p o - 1, by omega⟩
        rw [if_neg e2, if_neg e2, hb, mI_s, ih (i + 1) b (by omega) (by omega) (by omega), Nat.add_sub_cancel, show 40 - (i + 1) = m from by omega]
/-! a trial: what is lost -/
set_option maxRecDepth 8192 in
theorem x0_trial (hR : ph_rep I 1 A) (w : pa_wf A) (X : px_an I L A) {W u : Nat → Bool} {q : Nat → Nat → Bool} {S0 : Nat → Bool} {x : Int32} (hX : bs_X A S0 W x = bs_E (pg_E A W q) (pg_S A W u)) : ∃ J K, f_X6_run 17 21 (hb_mk S0) (hb_mk W) x (pm I L r) = some (pm J K r) ∧ f_X0_lostByTrial 12 (pm J K r) = some (nI (px_ls A W q u), pm J K r) ∧ (∀ a, (a < 17 ∨ 20 < a) → J a = I a ∧ K a = L a) := by
  obtain ⟨J, e1, m1, f1⟩ := x6_run (L := L) (r := r) (Or.inr rfl) X.1 w S0 W x
  refine ⟨J, _, e1, ?_, fun a ha => ⟨f1 a ha, up2_a (by omega)⟩⟩
  have hfin : bs_fin (bs_E (pg_E A W q) (pg_S A W u)) (bs_run (bs_X A S0 W x) 42) := by
    rw [hX]
    exact bs_done
  have hfd : hb_mk (bs_f (bs_run (bs_X A S0 W x) 42)) = hb_mk (pg_b A W q u) := pb_congr (fun o ho => bs_fR w hfin ho)
  have hR1 : ph_rep J 1 A := ph_fr hR (fun a h1 h2 => f1 a (by omega))
  unfold f_X0_lostByTrial
  simp only [pR_12_0, pR_12_1, pR_12_2, pbs, pI_13_4, pI_17_4, up2_ne (show (13 : Nat) ≠ 17 from by decide), up2_eq, X.2.2.1, hfd, pb_anot, pO_h (Or.inl rfl)]
  rw [x4_sizeOfAll (Or.inl rfl) hR1 (fun j => px_R A j && !pg_b A W q u j) (fun o _ ho => by
    simp only [Bool.and_eq_true] at ho
    exact (pg_b_al w ho.1).2)]
  rfl
set_option maxRecDepth 8192 in
theorem x0_lostSlot (hR : ph_rep I 1 A) (w : pa_wf A) (X : px_an I L A) {o s : Nat} (ho : o < 40) (hs : s < 8) : ∃ J K, f_X0_lostWithoutSlot 12 (nI o) (nI s) (pm I L r) = some (nI (px_ls A pg_0 (pq2 (nI o) (nI s)) pg_0), pm J K r) ∧ (∀ a, (a < 17 ∨ 20 < a) → J a = I a ∧ K a = L a) := by
  obtain ⟨J, K, e1, e2, f⟩ := x0_trial (r := r) hR w X (bs_X_slot A ho hs)
  refine ⟨J, K, ?_, f⟩
  unfold f_X0_lostWithoutSlot
  rw [show hb_mk pg_0 = 0 from pb_0] at e1
  simp only [pR_12_0, pR_12_2, pR_12_3, pbs, pO_h (Or.inl rfl), x4_allRoots (Or.inl rfl) hR w, pO_17, plit, pk_mul, nI_add, e1, pO_12, e2]
set_option maxRecDepth 8192 in
theorem x0_lostRoot (hR : ph_rep I 1 A) (w : pa_wf A) (X : px_an I L A) (x : Int32) : ∃ J K, f_X0_lostWithoutRoot 12 x (pm I L r) = some (nI (px_ls A pg_0 pg_00 (pq1 x)), pm J K r) ∧ (∀ a, (a < 17 ∨ 20 < a) → J a = I a ∧ K a = L a) := by
  obtain ⟨J, K, e1, e2, f⟩ := x0_trial (r := r) hR w X (bs_X_root A x)
  refine ⟨J, K, ?_, f⟩
  unfold f_X0_lostWithoutRoot
  rw [show hb_mk pg_0 = 0 from pb_0] at e1
  simp only [pR_12_0, pR_12_2, pR_12_3, pbs, pO_h (Or.inl rfl), x4_allRoots (Or.inl rfl) hR w, pO_17, x8_member, pb_anot, plit, e1, pO_12, e2]
set_option maxRecDepth 8192 in
theorem x0_lostSet (hR : ph_rep I 1 A) (w : pa_wf A) (X : px_an I L A) (W : Nat → Bool) : ∃ J K, f_X0_lostWithout 12 (hb_mk W) (pm I L r) = some (nI (px_ls A W pg_00 pg_0), pm J K r) ∧ (∀ a, (a < 17 ∨ 20 < a) → J a = I a ∧ K a = L a) := by
  obtain ⟨J, K, e1, e2, f⟩ := x0_trial (r := r) hR w X (bs_X_none A W)
  refine ⟨J, K, ?_, f⟩
  unfold f_X0_lostWithout
  simp only [pR_12_0, pR_12_2, pR_12_3, pbs, pO_h (Or.inl rfl), x4_allRoots (Or.inl rfl) hR w, pO_17, plit, e1, pO_12, e2]
/-- the path -/
def px_pa (A : Nat → Nat → Nat) (o : Nat) (x : Int32) : Int32 := match pn_at ((px_G A).2.2.1 o) x with
  | none => -nI 1
  | some i => nI (bs_an (px_G A) ((px_G A).2.2.1 o - 1 - i) o)
set_option maxRecDepth 8192 in
theorem x6_path (hm : bs_mem I 13 (px_G A)) (w : pa_wf A) {o : Nat} (ho : o < 40) (x : Int32) : f_X6_pathObject 13 (nI o) x (pm I L r) = some (px_pa A o x, pm I L r) := by
  have hfin := px_fin A
  have hs := (hm.2.2 o ho).1
  have hd : (px_G A).2.2.1 o ≤ 40 := by
    by_cases e : (px_G A).2.2.1 o = 0
    · omega
    · have := pr_D_lt (fun s h => pg_S_lt s h) (fun a b h => pg_E_lt w a b h) (bs_dist hfin (fun s h => pg_S_lt s h) (fun a b h => pg_E_lt w a b h) ho e)
      omega
  have hrow : I (13 + 2) = I 15 := rfl
  rw [hrow] at hs
  unfold f_X6_pathObject px_pa
  simp (disch := omega) only [plit, pbs, pR_13_1, pA_15, hs]
  cases e : pn_at ((px_G A).2.2.1 o) x with
  | none =>
    rcases pn_none (by omega) e with h | ⟨h, h1⟩
    · rw [if_pos h]
    · rw [if_neg h, if_neg]
      rw [fa_le, mI_toInt (by omega)]
      rw [fa_le, nI_toInt (by omega)] at h1
      omega
  | some i =>
    obtain ⟨hi, hx⟩ := pn_at_some (by omega) e
    subst hx
    obtain ⟨d, hd2⟩ : ∃ d, (px_G A).2.2.1 o = d + 1 := ⟨(px_G A).2.2.1 o - 1, by omega⟩
    rw [hd2, mI_s]
    simp (disch := omega) only [pn_lt0, if_false, pn_le]
    rw [if_pos (show i ≤ d from by omega)]
    have hanl := bs_anl hfin ho hd2
    have key : ∀ k n, k ≤ d - i → k < n → f_X6_pathObject_b26 n 13 (nI i) (nI (bs_an (px_G A) (d - i - k) o)) (nI (i + k)) (pm I L r) = some (nI (bs_an (px_G A) (d - i) o), pm I L r) := by
      intro k
      induction k with
      | zero =>
        intro n _ hn
        obtain ⟨n, rfl⟩ : ∃ m, n = m + 1 := ⟨n - 1, by omega⟩
        rw [f_X6_pathObject_b26]
        simp (disch := omega) only [pn_le, Nat.add_zero, Nat.le_refl, if_true, Nat.sub_zero]
      | succ k ih =>
        intro n hk hn
        obtain ⟨n, rfl⟩ : ∃ m, n = m + 1 := ⟨n - 1, by omega⟩
        obtain ⟨a1, a2⟩ := hanl (d - i - (k + 1)) (by omega)
        have ha3 := (hm.2.2 _ a1).2
        have hpar := bs_par hfin a1 (d := i + k) (by rw [a2]; omega)
        have he : bs_an (px_G A) (d - i - k) o = (px_G A).2.2.2 (bs_an (px_G A) (d - i - (k + 1)) o) := by
          rw [show d - i - k = (d - i - (k + 1)) + 1 from by omega]
          rfl
        rw [if_neg (by
          rintro (c | c)
          · omega
          · have := hpar.1
            omega), mI_s, ← he] at ha3
        have ha4 : I 16 (bs_an (px_G A) (d - i - (k + 1)) o) = nI (bs_an (px_G A) (d - i - k) o) := ha3
        rw [f_X6_pathObject_b26]
        simp (disch := omega) only [pn_le, pR_13_2, pbs, pA_16, ha4]
        rw [if_neg (show ¬ i + (k + 1) ≤ i from by omega), if_neg (nI_pos (by omega)), show nI (i + (k + 1)) + (-1 : Int32) = nI (i + k) from by
          rw [show (-1 : Int32) = -nI 1 from by decide, ← Int32.sub_eq_add_neg, pn_pred (by omega)]
          rfl]
        exact ih n (by omega) (by omega)
    have := key (d - i) hb_FU (Nat.le_refl _) (Nat.lt_of_le_of_lt (show d - i ≤ 40 from by omega) (by decide))
    rw [Nat.sub_self, show i + (d - i) = d from by omega] at this
    rw [show d + 1 - 1 - i = d - i from by omega]
    exact this
end X0Q
