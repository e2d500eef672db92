/-! the class: counts of references, what leads to what, components -/
set_option maxRecDepth 8192 in
theorem prow_upd {α : Type} {I : Nat → Nat → α} {a n t : Nat} {f : Nat → α} {v : α} (h : t < n) : up2 (prow I a n f) a t v = prow I a n (fun j => if j = t then v else f j) := by
  funext b j
  unfold up2 prow
  by_cases e1 : b = a
  · by_cases e2 : j = t
    · rw [if_pos ⟨e1, e2⟩, if_pos ⟨e1, by omega⟩]
      show v = if j = t then v else f j
      rw [if_pos e2]
    · rw [if_neg (by omega)]
      by_cases e3 : j < n
      · rw [if_pos ⟨e1, e3⟩, if_pos ⟨e1, e3⟩]
        show f j = if j = t then v else f j
        rw [if_neg e2]
      · rw [if_neg (by omega), if_neg (by omega)]
  · rw [if_neg (by omega), if_neg (by omega), if_neg (by omega)]
set_option maxRecDepth 8192 in
theorem prow_up2 {α : Type} {I : Nat → Nat → α} {a b n t : Nat} {f : Nat → α} {v : α} (h : b ≠ a) : up2 (prow I a n f) b t v = prow (up2 I b t v) a n f := by
  funext c j
  unfold up2 prow
  by_cases e1 : c = b ∧ j = t
  · rw [if_pos e1, if_neg (by omega)]
    show v = if c = b ∧ j = t then v else I c j
    rw [if_pos e1]
  · rw [if_neg e1]
    by_cases e2 : c = a ∧ j < n
    · rw [if_pos e2, if_pos e2]
    · rw [if_neg e2, if_neg e2]
      show I c j = if c = b ∧ j = t then v else I c j
      rw [if_neg e1]
def pa_in (A : Nat → Nat → Nat) (t m : Nat) : Nat := fb_ct (fun j => decide (pa_rf A j = t + 1)) m
def pa_ou (A : Nat → Nat → Nat) (o m : Nat) : Nat := fb_ct (fun j => decide (j / 8 = o) && decide (pa_rf A j ≠ 0)) m
def ld_0 (A : Nat → Nat → Nat) (o t : Nat) : Bool := pa_al A o && (decide (t = o) || pa_e A pg_00 o t)
def ld_w (v : Nat) (D : Nat → Nat → Bool) (o t : Nat) : Bool := D o t || (D o v && D v t)
def ld_n (A : Nat → Nat → Nat) : Nat → Nat → Nat → Bool
  | 0 => ld_0 A
  | n + 1 => ld_w n (ld_n A n)
/-- the lowest of the component, one more (0: none) -/
def ld_c (D : Nat → Nat → Bool) (o : Nat) : Nat := if fa_first (fun x => D o x && D x o) (o + 1) < o + 1 then fa_first (fun x => D o x && D x o) (o + 1) + 1 else 0
set_option maxRecDepth 8192 in
theorem pl_D_row (L : Nat → Nat → Int64) (a : Nat) (D : Nat → Nat → Bool) : pl_D L a D = prow L a 40 (fun j => hb_mk (D j)) := rfl
set_option maxRecDepth 8192 in
theorem pqx_none {a s : Nat} (ha : a < 40) (hs : s < 8) : pqx (-nI 1) a s = false := by
  unfold pqx
  apply decide_eq_false
  rw [nI_m1 (by omega)]
  exact fun h => h
set_option maxRecDepth 8192 in
theorem pa_e_none {A : Nat → Nat → Nat} {o : Nat} (ho : o < 40) (t : Nat) : pa_e A (pqx (-nI 1)) o t = pa_e A pg_00 o t := by
  unfold pa_e
  congr 1
  apply pq_any_cong
  intro s hs
  rw [pqx_none ho hs]
  rfl
section X0F
variable {I : Nat → Nat → Int32} {L : Nat → Nat → Int64} {r : Nat → Option Nat} {A : Nat → Nat → Nat} {h : Nat}
set_option maxRecDepth 8192 in
theorem x0_counts (hf : pa_refs I A) (w : pa_wf A) : f_X0_countReferences 12 (pm I L r) = some (pm (prow (prow I 25 40 (fun t => nI (pa_in A t 320))) 26 40 (fun o => nI (pa_ou A o 320))) L r) := by
  unfold f_X0_countReferences
  have e1 : pu_fill I 25 40 (nI 0) = prow I 25 40 (fun _ => nI 0) := rfl
  have e2 : ∀ J : Nat → Nat → Int32, pu_fill J 26 40 (nI 0) = prow J 26 40 (fun _ => nI 0) := fun _ => rfl
  simp only [pR_12_7, pR_12_8, pbs, plit, pf_fill (a := 25) (n := 40) rfl (show 40 ≤ 400 from by decide), pf_fill (a := 26) (n := 40) rfl (show 40 ≤ 400 from by decide), e1, e2]
  have hl := pm_seq (fun n a i => f_X0_countReferences_b18 n 12 (nI i) (pm a L r)) (fun m => prow (prow I 25 40 (fun t => nI (pa_in A t m))) 26 40 (fun o => nI (pa_ou A o m))) 320 (out := some (pm (prow (prow I 25 40 (fun t => nI (pa_in A t 320))) 26 40 (fun o => nI (pa_ou A o 320))) L r)) (by
    intro n i hi
    have hrf := hf i hi
    have hle : pa_rf A i ≤ 40 := by
      have := pa_rf_le w (o := i / 8) (s := i % 8) (by omega) (by omega)
      rw [show i / 8 * 8 + i % 8 = i from by omega] at this
      exact this
    have s1 : ∀ t, pa_in A t (i + 1) = pa_in A t i + (if decide (pa_rf A i = t + 1) = true then 1 else 0) := fun t => rfl
    have s2 : ∀ o, pa_ou A o (i + 1) = pa_ou A o i + (if (decide (i / 8 = o) && decide (pa_rf A i ≠ 0)) = true then 1 else 0) := fun o => rfl
    simp (disch := omega) only [f_X0_countReferences_b18, f_X0_countReferences_b65, plit, pn_le, pbs, pR_12_3, pA_21, prow_ne, hrf, mI_neg]
    rw [if_neg (show ¬ 320 ≤ i from by omega)]
    by_cases e : pa_rf A i = 0
    · rw [if_pos e]
      have g1 : (fun t => nI (pa_in A t i)) = fun t => nI (pa_in A t (i + 1)) := by
        funext t
        rw [s1 t, e]
        simp
      have g2 : (fun o => nI (pa_ou A o i)) = fun o => nI (pa_ou A o (i + 1)) := by
        funext o
        rw [s2 o, e]
        simp
      rw [g1, g2]
      simp only [nI_add]
    · obtain ⟨t, ht⟩ : ∃ t, pa_rf A i = t + 1 := ⟨pa_rf A i - 1, by omega⟩
      rw [if_neg e]
      simp only [ht, mI_s]
      simp (disch := omega) only [pn_le, pR_12_7, pR_12_8, pA_25, pA_26, pS_25, pS_26, pbs, prow_ne, prow_in, nI_add, pk_div, prow_up2, prow_upd]
      rw [if_neg (show ¬ 40 ≤ t from by omega)]
      have g1 : (fun j => if j = t then nI (pa_in A t i + 1) else nI (pa_in A j i)) = fun t => nI (pa_in A t (i + 1)) := by
        funext j
        rw [s1 j, ht]
        by_cases e9 : j = t
        · simp [e9]
        · have : ¬ t + 1 = j + 1 := by omega
          simp only [e9, this, if_false, decide_false, Bool.false_eq_true, Nat.add_zero]
      have g2 : (fun j => if j = i / 8 then nI (pa_ou A (i / 8) i + 1) else nI (pa_ou A j i)) = fun o => nI (pa_ou A o (i + 1)) := by
        funext j
        rw [s2 j, ht]
        by_cases e9 : j = i / 8
        · simp [e9]
        · have : ¬ i / 8 = j := fun q => e9 q.symm
          simp [e9, this]
      rw [g1, g2]) (by
    intro n
    rw [f_X0_countReferences_b18, if_pos (by decide)]) hb_FU (by decide)
  exact hl
set_option maxRecDepth 8192 in
theorem x0_led (hh : pm_hp h) (h1 : h = 1) (hR : ph_rep I h A) (hf : pa_refs I A) (w : pa_wf A) : f_X0_findLed 12 (pm I L r) = some (pm I (pl_D L 27 (ld_n A 40)) r) := by
  have hhR : hb_getR (pm I L r) 12 0 0 = some h := by rw [h1]; exact pR_12_0
  unfold f_X0_findLed
  simp only [hhR, pbs, pO_h hh, x4_allObjects hh hR w]
  have hrow : ∀ (n v : Nat) (D : Nat → Nat → Bool), v < 40 → f_X0_findLed_b65 (f_X0_findLed_b56 n) hb_FU 12 (nI v) (nI 0) (pm I (pl_D L 27 D) r) = f_X0_findLed_b56 n 12 (nI (v + 1)) (pm I (pl_D L 27 (ld_w v D)) r) := by
    intro n v D hv
    by_cases z : hb_mk (D v) = 0
    · obtain ⟨F9, hF9⟩ : ∃ F, hb_FU = F + 1 := ⟨4095, rfl⟩
      rw [hF9, f_X0_findLed_b65]
      simp (disch := omega) only [f_X0_findLed_b119, plit, pn_le, pR_12_9, pA_27, pl_D_in, pbs, pb_cmp0, z, nI_add]
      rw [if_neg (show ¬ 40 ≤ 0 from by decide), if_pos trivial]
      congr 2
      rw [pl_D_row, pl_D_row]
      apply prow_cong
      intro j hj
      apply pb_congr
      intro t ht
      have := pb_zero.mp z t ht
      simp [ld_w, this]
    · have hl := pm_seq (fun m a i => f_X0_findLed_b65 (f_X0_findLed_b56 n) m 12 (nI v) (nI i) (pm I a r)) (fun i => pl_D L 27 (fun x => if x < i then ld_w v D x else D x)) 40 (out := f_X0_findLed_b56 n 12 (nI (v + 1)) (pm I (pl_D L 27 (ld_w v D)) r)) (by
        intro m i hi
        have hv2 : hb_mk (if v < i then ld_w v D v else D v) = hb_mk (D v) := by
          by_cases e : v < i
          · rw [if_pos e]
            apply pb_congr
            intro t _
            unfold ld_w
            cases D v v <;> cases D v t <;> rfl
          · rw [if_neg e]
        have hi2 : (if i < i then ld_w v D i else D i) = D i := if_neg (Nat.lt_irrefl i)
        have z2 : ¬ (hb_mk (D v) = 0) := z
        simp (disch := omega) only [f_X0_findLed_b65, f_X0_findLed_b113, plit, pn_le, pR_12_9, pA_27, pl_D_in, pbs, hv2, hi2, pb_cmp0, z2, if_false, x8_containsN hv, bIn, pb_or, pS_27, pl_D_up, nI_add]
        rw [if_neg (show ¬ 40 ≤ i from by omega)]
        have hfin : ∀ p : Nat → Bool, (∀ t, t < 40 → p t = ld_w v D i t) → pl_D L 27 (fun o => if o = i then p else (if o < i then ld_w v D o else D o)) = pl_D L 27 (fun x => if x < i + 1 then ld_w v D x else D x) := by
          intro p hp
          rw [pl_D_row, pl_D_row]
          apply prow_cong
          intro j hj
          apply pb_congr
          intro t ht
          by_cases e : j = i
          · rw [if_pos e, if_pos (by omega), hp t ht, e]
          · rw [if_neg e]
            by_cases e2 : j < i
            · rw [if_pos e2, if_pos (by omega)]
            · rw [if_neg e2, if_neg (by omega)]
        cases e : D i v
        · simp only [if_true]
          congr 2
          rw [pl_D_row, pl_D_row]
          apply prow_cong
          intro j hj
          apply pb_congr
          intro t ht
          by_cases e3 : j < i
          · rw [if_pos e3, if_pos (by omega)]
          · rw [if_neg e3]
            by_cases e2 : j = i
            · rw [if_pos (by omega), e2]
              simp [ld_w, e]
            · rw [if_neg (by omega)]
        · simp only [Bool.true_eq_false, if_false]
          rw [hfin _ (fun t _ => by simp [ld_w, e])]) (by
        intro m
        rw [f_X0_findLed_b65, if_pos (by decide)]
        unfold f_X0_findLed_b119
        simp only [plit, nI_add]
        congr 2
        rw [pl_D_row, pl_D_row]
        apply prow_cong
        intro j hj
        rw [if_pos hj]) hb_FU (by decide)
      have e0 : (fun x => if x < 0 then ld_w v D x else D x) = D := by
        funext x
        rw [if_neg (Nat.not_lt_zero x)]
      simp only [e0] at hl
      exact hl
  have hw := pm_seq (fun n a i => f_X0_findLed_b56 n 12 (nI i) (pm I a r)) (fun i => pl_D L 27 (ld_n A i)) 40 (out := some (pm I (pl_D L 27 (ld_n A 40)) r)) (by
    intro n i hi
    simp (disch := omega) only [f_X0_findLed_b56, plit, pn_le]
    rw [if_neg (show ¬ 40 ≤ i from by omega), hrow n i _ hi]
    rfl) (by
    intro n
    rw [f_X0_findLed_b56, if_pos (by decide)]) hb_FU (by decide)
  have hl := pm_seq (fun n (a : Nat → Nat → Int64) i => f_X0_findLed_b10 n 12 (hb_mk (pa_al A)) (nI i) (pm I a r)) (fun i => prow L 27 i (fun j => hb_mk (ld_0 A j))) 40 (out := f_X0_findLed_b56 hb_FU 12 (nI 0) (pm I (pl_D L 27 (ld_n A 0)) r)) (by
    intro n i hi
    simp (disch := omega) only [f_X0_findLed_b10, f_X0_findLed_b47, plit, pn_le, pbs, pR_12_9, x8_containsN hi, bIn, x8_memberN hi, pR_12_3, x6_targets hf w hi, pb_or, pS_27, nI_add]
    rw [if_neg (show ¬ 40 ≤ i from by omega)]
    have hup : ∀ v : Int64, v = hb_mk (ld_0 A i) → up2 (prow L 27 i (fun j => hb_mk (ld_0 A j))) 27 i v = prow L 27 (i + 1) (fun j => hb_mk (ld_0 A j)) := by
      intro v hv
      rw [hv]
      exact prow_up L 27 i (fun j => hb_mk (ld_0 A j))
    cases e1 : pa_al A i
    · simp only [if_true]
      rw [hup 0 (by rw [← pb_0]; exact pb_congr (fun a _ => by simp [ld_0, e1]))]
    · simp only [Bool.true_eq_false, if_false]
      rw [hup _ (pb_congr (fun a _ => by simp [ld_0, e1, pa_e_none hi]))]) (by
    intro n
    rw [f_X0_findLed_b10, if_pos (by decide)]
    rfl) hb_FU (by decide)
  simp only [prow_0] at hl
  exact hl.trans hw
set_option maxRecDepth 8192 in
theorem x0_components {D : Nat → Nat → Bool} : f_X0_findComponents 12 (pm I (pl_D L 27 D) r) = some (pm (prow I 28 40 (fun o => mI (ld_c D o))) (pl_D L 27 D) r) := by
  unfold f_X0_findComponents
  have hl := pm_seq (fun n a i => f_X0_findComponents_b2 n 12 (nI i) (pm a (pl_D L 27 D) r)) (fun i => prow I 28 i (fun o => mI (ld_c D o))) 40 (out := some (pm (prow I 28 40 (fun o => mI (ld_c D o))) (pl_D L 27 D) r)) (by
    intro n i hi
    simp (disch := omega) only [f_X0_findComponents_b2, plit, pn_le]
    rw [if_neg (show ¬ 40 ≤ i from by omega)]
    obtain ⟨p, hp⟩ : ∃ p : Nat → Bool, p = fun x => D i x && D x i := ⟨_, rfl⟩
    have hpe : ∀ x, p x = (D i x && D x i) := fun x => by rw [hp]
    have hfl := fa_first_le p (i + 1)
    have hno := fa_first_no p (i + 1)
    have hyes := fa_first_yes p (i + 1)
    have hc : ld_c D i = if fa_first p (i + 1) < i + 1 then fa_first p (i + 1) + 1 else 0 := by rw [hp]; rfl
    have hput : ∀ x : Int32, x = mI (ld_c D i) → f_X0_findComponents_b56 (f_X0_findComponents_b2 n) 12 (nI i) x (pm (prow I 28 i (fun o => mI (ld_c D o))) (pl_D L 27 D) r) = f_X0_findComponents_b2 n 12 (nI (i + 1)) (pm (prow I 28 (i + 1) (fun o => mI (ld_c D o))) (pl_D L 27 D) r) := by
      intro x hx
      unfold f_X0_findComponents_b56
      have hu := prow_up I 28 i (fun o => mI (ld_c D o))
      simp (disch := omega) only [plit, pR_12_10, pS_28, pbs, nI_add, hx, hu]
    refine pm_loop (fun m (_ : Unit) x => f_X0_findComponents_b12 (f_X0_findComponents_b2 n) (m + 1) 12 (nI i) (-nI 1) (nI x) (pm (prow I 28 i (fun o => mI (ld_c D o))) (pl_D L 27 D) r)) (fun _ a => a) (fa_first p (i + 1)) (out := fun _ => f_X0_findComponents_b2 n 12 (nI (i + 1)) (pm (prow I 28 (i + 1) (fun o => mI (ld_c D o))) (pl_D L 27 D) r)) ?_ ?_ () 4095 (Nat.lt_of_le_of_lt (show fa_first p (i + 1) ≤ 41 from by omega) (by decide))
    · intro m _ x hx
      have hpx := hno x hx
      rw [hpe] at hpx
      rw [f_X0_findComponents_b12]
      simp (disch := omega) only [f_X0_findComponents_b50, plit, pn_lt, if_true, pR_12_9, pA_27, pl_D_in, pbs, x8_containsN, bIn, nI_add]
      rw [if_neg (show ¬ i < x from by omega)]
      cases e1 : D i x
      · simp
      · rw [e1] at hpx
        simp only [Bool.true_and] at hpx
        simp [hpx]
    · intro m _
      rw [f_X0_findComponents_b12]
      rcases Nat.lt_or_ge (fa_first p (i + 1)) (i + 1) with hlt | hge
      · have hpx := hyes hlt
        rw [hpe] at hpx
        simp only [Bool.and_eq_true] at hpx
        simp (disch := omega) only [f_X0_findComponents_b50, plit, pn_lt, if_true, pR_12_9, pA_27, pl_D_in, pbs, x8_containsN, bIn, nI_add, hpx.1, hpx.2, Bool.true_eq_false, if_false]
        rw [if_neg (show ¬ i < fa_first p (i + 1) from by omega), f_X0_findComponents_b12]
        have hx : nI (fa_first p (i + 1)) = mI (ld_c D i) := by rw [hc, if_pos hlt, mI_s]
        simp (disch := omega) only [plit, pn_lt, nI_m1, if_false, hput _ hx]
        split <;> rfl
      · simp (disch := omega) only [plit, pn_lt]
        rw [if_pos (show i < fa_first p (i + 1) from by omega)]
        exact hput _ (by rw [hc, if_neg (by omega), mI_0])) (by
    intro n
    rw [f_X0_findComponents_b2, if_pos (by decide)]) hb_FU (by decide)
  simp only [prow_0] at hl
  exact hl
end X0F
