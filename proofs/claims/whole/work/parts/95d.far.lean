/-! the reference: how far, and the path -/
set_option maxRecDepth 8192 in
theorem pb_step (p : Nat → Bool) (i : Nat) : hb_mk (fun j => decide (j < i) && p j) ||| (if p i = true then hb_mk (fun j => decide (j = i)) else 0) = hb_mk (fun j => decide (j < i + 1) && p j) := by
  by_cases hp : p i = true
  · rw [if_pos hp, pb_or]
    apply pb_congr
    intro j _
    by_cases e : j = i
    · subst e
      simp [hp]
    · have : j < i + 1 ↔ j < i := by omega
      simp [e, this]
  · rw [if_neg hp, pb_or_0]
    apply pb_congr
    intro j _
    by_cases e : j = i
    · subst e
      simp [hp]
    · have : j < i + 1 ↔ j < i := by omega
      simp [this]
def px_df (A : Nat → Nat → Nat) (o : Nat) : Nat := (px_G A).2.2.1 o
section FAR
variable {I J : Nat → Nat → Int32} {L K : Nat → Nat → Int64} {r : Nat → Option Nat} {A : Nat → Nat → Nat} {n : Nat} {H : Nat → Nat → Nat → Nat} {t : Nat} {T : Nat → Nat} {P : Nat → Nat → Nat → Nat} {k : Nat → Bool} {B : Nat}
set_option maxRecDepth 8192 in
theorem df_D (w : pa_wf A) {o d : Nat} (ho : o < 40) : px_df A o = d + 1 ↔ pr_D (pg_E A pg_0 pg_00) (pg_S A pg_0 pg_0) d o := by
  have hfin := px_fin A
  have hs : ∀ s, pg_S A pg_0 pg_0 s = true → s < 40 := fun s h => pg_S_lt s h
  have he : ∀ a b, pg_E A pg_0 pg_00 a b = true → b < 40 := fun a b h => pg_E_lt w a b h
  have h1 : px_df A o ≠ 0 → pr_D (pg_E A pg_0 pg_00) (pg_S A pg_0 pg_0) (px_df A o - 1) o := fun h => bs_dist hfin hs he ho h
  constructor
  · intro h
    have := h1 (by omega)
    rw [h, Nat.add_sub_cancel] at this
    exact this
  · intro h
    have h0 : px_df A o ≠ 0 := (bs_all hfin hs he (pr_W_R h.1)).2
    have := pr_D_one (h1 h0) h
    omega
set_option maxRecDepth 8192 in
theorem df_le (w : pa_wf A) {o : Nat} (ho : o < 40) : px_df A o ≤ 40 := by
  by_cases e : px_df A o = 0
  · omega
  · obtain ⟨d, hd⟩ : ∃ d, px_df A o = d + 1 := ⟨px_df A o - 1, by omega⟩
    have := pr_D_lt (fun s h => pg_S_lt s h) (fun a b h => pg_E_lt w a b h) ((df_D w ho).mp hd)
    omega
set_option maxRecDepth 8192 in
theorem df_root (w : pa_wf A) {o : Nat} (ho : o < 40) : pa_r A o = decide (px_df A o = 0 + 1) := by
  apply Bool.eq_iff_iff.mpr
  rw [decide_eq_true_eq, df_D w ho]
  have hS : pg_S A pg_0 pg_0 o = pa_r A o := by
    unfold pg_S pg_0
    simp [ho]
  constructor
  · intro h
    exact ⟨by show pg_S A pg_0 pg_0 o = true; rw [hS]; exact h, fun k hk => by omega⟩
  · intro h
    have : pg_S A pg_0 pg_0 o = true := h.1
    rw [hS] at this
    exact this
set_option maxRecDepth 8192 in
theorem pg_E00 {a b : Nat} (ha : a < 40) : pg_E A pg_0 pg_00 a b = pa_e A pg_00 a b := by
  unfold pg_E pg_0
  simp [ha]
set_option maxRecDepth 8192 in
theorem df_next (w : pa_wf A) {d t : Nat} (ht : t < 40) : (pq_any (fun o => decide (px_df A o = d + 1) && pa_e A pg_00 o t) 40 && !(decide (1 ≤ px_df A t) && decide (px_df A t ≤ d + 1))) = decide (px_df A t = d + 1 + 1) := by
  apply Bool.eq_iff_iff.mpr
  simp only [Bool.and_eq_true, pq_any_iff, decide_eq_true_eq, Bool.not_eq_true', Bool.and_eq_false_iff, decide_eq_false_iff_not]
  constructor
  · rintro ⟨⟨o, ho, h1, h2⟩, h3⟩
    have hD := (df_D w ho).mp h1
    obtain ⟨q, hq, hqd⟩ := pr_W_D (d := d + 1) (o := t) ⟨o, hD.1, by rw [pg_E00 ho]; exact h2⟩
    have := (df_D w ht).mpr hqd
    omega
  · intro h
    obtain ⟨p, hp, he⟩ := pr_D_back ((df_D w ht).mp h)
    have hp40 : p < 40 := pr_R_lt (fun s h => pg_S_lt s h) (fun a b h => pg_E_lt w a b h) (pr_W_R hp.1)
    refine ⟨⟨p, hp40, (df_D w hp40).mpr hp, ?_⟩, by omega⟩
    rw [pg_E00 hp40] at he
    exact he
set_option maxRecDepth 8192 in
theorem df_stop (w : pa_wf A) {d : Nat} (h : ∀ o, o < 40 → px_df A o ≠ d + 1) {o : Nat} (ho : o < 40) : px_df A o ≤ d := by
  apply Classical.byContradiction
  intro hn
  obtain ⟨e, he⟩ : ∃ e, px_df A o = e + 1 := ⟨px_df A o - 1, by omega⟩
  obtain ⟨p, hp⟩ := pr_D_all ((df_D w ho).mp he) d (by omega)
  have hp40 : p < 40 := pr_R_lt (fun s h => pg_S_lt s h) (fun a b h => pg_E_lt w a b h) (pr_W_R hp.1)
  exact h p hp40 ((df_D w hp40).mpr hp)
set_option maxRecDepth 8192 in
theorem df_al (w : pa_wf A) {o : Nat} (ho : o < 40) (h : px_df A o ≠ 0) : A o 0 ≠ 0 := by
  obtain ⟨d, hd⟩ : ∃ d, px_df A o = d + 1 := ⟨px_df A o - 1, by omega⟩
  exact (pg_b_al w (W := pg_0) (q := pg_00) (u := pg_0) (pr_b_iff.mpr (pr_W_R ((df_D w ho).mp hd).1))).2
set_option maxRecDepth 8192 in
theorem r9_laysFar (hN : pr_row (I 131) A) (w : pa_wf A) : ∃ J, f_X9_laysFar 130 (pm I L r) = some (pm J L r) ∧ (∀ o, o < 40 → J 139 o = mI (px_df A o)) ∧ ∀ a, a ≠ 139 → J a = I a := by
  have h2 : pw_w (f_X9_laysFar_b66 hb_FU 130 (hb_mk (fun o => decide (1 ≤ px_df A o) && decide (px_df A o ≤ 0))) (hb_mk (fun o => decide (px_df A o = 0 + 1))) (nI 0) (pm (prow I 139 40 (fun _ => -nI 1)) L r)) (fun s => ∃ J, s = pm J L r ∧ (∀ o, o < 40 → J 139 o = mI (px_df A o)) ∧ ∀ a, a ≠ 139 → J a = I a) := by
    refine pm_for (fun n (J : Nat → Nat → Int32) d => f_X9_laysFar_b66 n 130 (hb_mk (fun o => decide (1 ≤ px_df A o) && decide (px_df A o ≤ d))) (hb_mk (fun o => decide (px_df A o = d + 1))) (nI d) (pm J L r)) (fun d J => (∀ o, o < 40 → J 139 o = mI (if px_df A o ≤ d then px_df A o else 0)) ∧ ∀ a, a ≠ 139 → J a = I a) (fun s => ∃ J, s = pm J L r ∧ (∀ o, o < 40 → J 139 o = mI (px_df A o)) ∧ ∀ a, a ≠ 139 → J a = I a) 41 ?_ ?_ hb_FU 0 (prow I 139 40 (fun _ => -nI 1)) (by decide) (by decide) ⟨?_, fun a ha => prow_a ha⟩
    · rintro n J d hd ⟨j1, j2⟩
      rw [f_X9_laysFar_b66]
      by_cases z : hb_mk (fun o => decide (px_df A o = d + 1)) = 0
      · left
        rw [if_pos (show lg_cmp (hb_mk (fun o => decide (px_df A o = d + 1))) (0 : Int64) = (0 : Int32) from pb_cmp0.mpr z)]
        refine hw_some.mpr ⟨J, rfl, fun o ho => ?_, j2⟩
        have := df_stop w (d := d) (fun o ho => by
          have := pb_zero.mp z o ho
          exact of_decide_eq_false this) ho
        rw [j1 o ho, if_pos this]
      · right
        refine ⟨prow J 139 40 (fun j => if px_df A j = d + 1 then nI d else J 139 j), ?_, fun o ho => ?_, fun a ha => by rw [prow_a ha, j2 a ha]⟩
        · rw [if_neg (show ¬ lg_cmp (hb_mk (fun o => decide (px_df A o = d + 1))) (0 : Int64) = (0 : Int32) from fun h => z (pb_cmp0.mp h)), pb_or]
          have hseen : hb_mk (fun j => (decide (1 ≤ px_df A j) && decide (px_df A j ≤ d)) || decide (px_df A j = d + 1)) = hb_mk (fun o => decide (1 ≤ px_df A o) && decide (px_df A o ≤ d + 1)) := pb_congr (fun j _ => by
            rw [← Bool.decide_and, ← Bool.decide_and, ← Bool.decide_or]
            exact decide_eq_decide.mpr ⟨fun _ => by omega, fun _ => by omega⟩)
          rw [hseen]
          have hl := pm_seq (fun m (a : (Nat → Nat → Int32) × Int64) i => f_X9_laysFar_b82 (f_X9_laysFar_b66 n) m 130 (hb_mk (fun o => decide (1 ≤ px_df A o) && decide (px_df A o ≤ d + 1))) (hb_mk (fun o => decide (px_df A o = d + 1))) (nI d) a.2 (nI i) (pm a.1 L r)) (fun i => (prow J 139 i (fun j => if px_df A j = d + 1 then nI d else J 139 j), hb_mk (fun t => pq_any (fun o => decide (px_df A o = d + 1) && pa_e A pg_00 o t) i))) 40 (out := f_X9_laysFar_b66 n 130 (hb_mk (fun o => decide (1 ≤ px_df A o) && decide (px_df A o ≤ d + 1))) (hb_mk (fun o => decide (px_df A o = d + 1 + 1))) (nI (d + 1)) (pm (prow J 139 40 (fun j => if px_df A j = d + 1 then nI d else J 139 j)) L r)) (by
            intro m i hi
            have hu := prow_up J 139 i (fun j => if px_df A j = d + 1 then nI d else J 139 j)
            have hNi : pr_row (up2 (prow J 139 i (fun j => if px_df A j = d + 1 then nI d else J 139 j)) 139 i (nI d) 131) A := by
              rw [up2_a (by decide), prow_a (by decide), j2 131 (by decide)]
              exact hN
            simp (disch := omega) only [f_X9_laysFar_b82, f_X9_laysFar_b122, plit, pn_le, pb_cS hi, pb_cmpE, pb_l1', decide_eq_true_eq, pR_130_13, pbs, pS_139, pO_130, nI_add]
            rw [if_neg (show ¬ 40 ≤ i from by omega)]
            by_cases e : px_df A i = d + 1
            · simp only [e, if_true] at hu
              have hq : hb_mk (fun j => pq_any (fun o => decide (px_df A o = d + 1) && pa_e A pg_00 o j) i || pa_e A pg_00 i j) = hb_mk (fun t => pq_any (fun o => decide (px_df A o = d + 1) && pa_e A pg_00 o t) (i + 1)) := pb_congr (fun t _ => by simp [pq_any, e])
              rw [if_pos e, r9_refersTo hNi w hi (df_al w hi (by omega)), pbs, pa_e_none2 hi, pb_or, hu, hq]
            · have hq : hb_mk (fun j => pq_any (fun o => decide (px_df A o = d + 1) && pa_e A pg_00 o j) i) = hb_mk (fun t => pq_any (fun o => decide (px_df A o = d + 1) && pa_e A pg_00 o t) (i + 1)) := pb_congr (fun t _ => by simp [pq_any, e])
              rw [if_neg e, prow_same (by simp only [e, if_false]), hq]) (by
            intro m
            rw [f_X9_laysFar_b82, if_pos (by decide), pb_anot]
            simp only [plit, nI_add]
            rw [pb_congr (fun t ht => df_next w (d := d) ht)]) hb_FU (by decide)
          rw [prow_0] at hl
          have e0 : hb_mk (fun t => pq_any (fun o => decide (px_df A o = d + 1) && pa_e A pg_00 o t) 0) = 0 := pb_0
          rw [e0] at hl
          exact hl
        · rw [prow_in ho]
          by_cases e : px_df A o = d + 1
          · rw [if_pos e, if_pos (by omega), e, mI_s]
          · rw [if_neg e, j1 o ho]
            have : (px_df A o ≤ d + 1) = (px_df A o ≤ d) := propext ⟨fun _ => by omega, fun _ => by omega⟩
            simp only [this]
    · rintro n J ⟨j1, j2⟩
      have z : hb_mk (fun o => decide (px_df A o = 41 + 1)) = 0 := pb_zero.mpr (fun o ho => by
        have := df_le w ho
        exact decide_eq_false (by omega))
      rw [f_X9_laysFar_b66, if_pos (show lg_cmp (hb_mk (fun o => decide (px_df A o = 41 + 1))) (0 : Int64) = (0 : Int32) from pb_cmp0.mpr z)]
      refine hw_some.mpr ⟨J, rfl, fun o ho => ?_, j2⟩
      have := df_le w ho
      rw [j1 o ho, if_pos (by omega)]
    · intro o ho
      rw [prow_in ho]
      have : (if px_df A o ≤ 0 then px_df A o else 0) = 0 := by
        split <;> omega
      rw [this, mI_0]
  obtain ⟨s, hs1, J, hs2, hs3, hs4⟩ := h2
  refine ⟨J, ?_, hs3, hs4⟩
  rw [← hs2, ← hs1]
  have hz : hb_mk (fun o => decide (1 ≤ px_df A o) && decide (px_df A o ≤ 0)) = 0 := pb_zero.mpr (fun o _ => by
    rw [← Bool.decide_and]
    exact decide_eq_false (by omega))
  rw [hz]
  have hl := pm_seq (fun n (a : (Nat → Nat → Int32) × Int64) i => f_X9_laysFar_b7 n 130 (0 : Int64) a.2 (nI i) (pm a.1 L r)) (fun i => (prow I 139 i (fun _ => -nI 1), hb_mk (fun j => decide (j < i) && pa_r A j))) 40 (out := f_X9_laysFar_b66 hb_FU 130 (0 : Int64) (hb_mk (fun o => decide (px_df A o = 0 + 1))) (nI 0) (pm (prow I 139 40 (fun _ => -nI 1)) L r)) (by
    intro n i hi
    have hu := prow_up I 139 i (fun _ => -nI 1)
    have hNi : pr_row (prow I 139 (i + 1) (fun _ => -nI 1) 131) A := by
      rw [prow_a (by decide)]
      exact hN
    have h4 := (hNi.2.2.2 i hi).1 4 (by decide)
    have hst := pb_step (pa_r A) i
    have hone := pb_one hi
    simp (disch := omega) only [f_X9_laysFar_b7, f_X9_laysFar_b54, f_X9_laysFar_b55, plit, pn_le, pR_130_13, pbs, pS_139, hu, pO_130, r9_isObj hNi w hi, bIn, nI_add, hone, pR_130_0, r9_at, pA_131, h4]
    rw [if_neg (show ¬ 40 ≤ i from by omega), ← hst]
    by_cases ha : A i 0 = 0
    · have e1 : pa_al A i = false := by simp [pa_al, ha]
      have e2 : pa_r A i = false := by simp [pa_r, e1]
      rw [e1, e2]
      rfl
    · have h7 : A i 4 ≤ 7 := (w.2.2.2.1 i hi ha).2.2.1
      have e1 : pa_al A i = true := by simp [pa_al, ha]
      rw [e1, if_neg (by decide)]
      simp (disch := omega) only [pn_eq]
      by_cases e4 : A i 4 = 0
      · have e2 : pa_r A i = false := by simp [pa_r, e4]
        rw [if_pos e4, e2]
        rfl
      · have e2 : pa_r A i = true := by simp [pa_r, e1, e4]
        rw [if_neg e4, e2]
        rfl) (by
    intro n
    rw [f_X9_laysFar_b7, if_pos (by decide)]
    rw [pb_congr (p := fun j => decide (j < 40) && pa_r A j) (q := fun o => decide (px_df A o = 0 + 1)) (fun j hj => by rw [df_root w hj]; simp [hj])]
    rfl) hb_FU (by decide)
  rw [prow_0] at hl
  have e0 : hb_mk (fun j => decide (j < 0) && pa_r A j) = 0 := by
    rw [← pb_0]
    exact pb_congr (fun j _ => by simp)
  rw [e0] at hl
  unfold f_X9_laysFar
  exact hl
set_option maxRecDepth 8192 in
theorem ok_distance (x : Int32) (hC : cS I L r A n H t T P k B) (hA : aS A n H t T P k B) (hB : B + 1000 < 2 ^ 29) : opK (fun σ => f_L_distance 0 x 148 σ) (fun σ => f_X9_distance 130 x σ) Int32.toInt64 I L r A n H t T P k B := by
  have w := hA.2.1
  refine opK_obj (fX := fun σ => f_X8_distance 0 x σ) (pa_isO A x) (mI (px_df A x.toNatClampNeg)) (fun r5 => (hb_getR r5 0 8 1).bind fun r6 => (hb_getR r5 r6 0 1).bind fun r7 => (hb_getR r5 r7 6 1).bind fun r8 => (hb_iald r5 r8 x).bind fun r9 => some (.inr r9, r5)) (fun _ => rfl) ?_ ?_ ?_ ?_ hC hA hB
  · show f_X8_distance 0 x (pm I L r) = _
    unfold f_X8_distance
    simp only [pR_0_0, pbs, pO_h hp_1, x4_hasObject hp_1 hC.1 w]
  · intro e J K X R
    obtain ⟨o, ho, ha, hx⟩ := pa_isO_ex e
    subst hx
    have hs : J 15 o = mI (px_df A o) := (X.2.1.2.2 o ho).1
    refine ⟨J, K, ?_, fun _ _ => ⟨rfl, rfl⟩⟩
    simp only [pR_0_1, pbs, pR_12_1, pR_13_1, pA_15 ho, hs, nI_clamp (show o < 2 ^ 31 from by omega)]
  · intro e J K r' hJ
    unfold f_X9_distance
    simp only [plit, pO_130, pbs, r9_isObject hJ.1 w, e, r9_need, r9_rf (show (if false = true then 0 else 1) ≤ 100 from by decide), bIn]
    rfl
  · intro e J K r' hJ
    obtain ⟨o, ho, ha, hx⟩ := pa_isO_ex e
    subst hx
    obtain ⟨J1, g1, g2, g3⟩ := r9_laysFar (L := K) (r := r') (mS_1 hJ) w
    refine ⟨J1, K, ?_, by rw [g3 130 (by decide), up2_eq], mK_tr mK_rf ⟨fun a ha => g3 a (by omega), by rw [g3 130 (by decide)], by rw [g3 130 (by decide)]⟩, fun a ha => ⟨by rw [g3 a (by omega), up2_a (by omega)], rfl⟩⟩
    unfold f_X9_distance
    simp only [plit, pO_130, pbs, r9_isObject hJ.1 w, e, r9_need, if_true, r9_rf (show 0 ≤ 100 from by decide), bIn, ne_eq, not_true, decide_false, g1, pR_130_13, pA_139 ho, g2 o ho, nI_clamp (show o < 2 ^ 31 from by omega)]
noncomputable def px_th (A : Nat → Nat → Nat) (o d n b : Nat) : Bool := @decide (bs_th (pg_E A pg_0 pg_00) (px_G A) o d n b) (Classical.propDecidable _)
set_option maxRecDepth 8192 in
theorem px_th_iff {o d n b : Nat} : px_th A o d n b = true ↔ bs_th (pg_E A pg_0 pg_00) (px_G A) o d n b := by
  unfold px_th
  exact @decide_eq_true_iff _ (Classical.propDecidable _)
set_option maxRecDepth 8192 in
theorem th_lt (w : pa_wf A) {o d : Nat} (ho : o < 40) : ∀ {n b}, bs_th (pg_E A pg_0 pg_00) (px_G A) o d n b → b < 40
  | 0, b, h => by
    have h : b = o := h
    omega
  | _ + 1, _, h => h.1
/-! one layer of the ways back -/
set_option maxRecDepth 8192 in
theorem th_step (w : pa_wf A) {o d n b : Nat} (ho : o < 40) (hb : b < 40) : px_th A o d (n + 1) b = (decide (px_df A b = d - (n + 1) + 1) && pq_any (fun c => pa_e A pg_00 b c && px_th A o d n c) 40) := by
  apply Bool.eq_iff_iff.mpr
  rw [px_th_iff]
  simp only [Bool.and_eq_true, decide_eq_true_eq, pq_any_iff]
  constructor
  · rintro ⟨-, h1, c, h2, h3⟩
    rw [pg_E00 hb] at h2
    exact ⟨h1, c, th_lt w ho h3, h2, px_th_iff.mpr h3⟩
  · rintro ⟨h1, c, -, h2, h3⟩
    exact ⟨hb, h1, c, by rw [pg_E00 hb]; exact h2, px_th_iff.mp h3⟩
set_option maxRecDepth 8192 in
theorem ok_pathAt (x y : Int32) (hC : cS I L r A n H t T P k B) (hA : aS A n H t T P k B) (hB : B + 1000 < 2 ^ 29) : opK (fun σ => f_L_pathAt 0 x y 148 σ) (fun σ => f_X9_pathAt 130 x y σ) Int32.toInt64 I L r A n H t T P k B := by
  have w := hA.2.1
  refine opK_obj (fX := fun σ => f_X8_pathAt 0 x y σ) (pa_isO A x) (px_pa A x.toNatClampNeg y) (fun r5 => (hb_getR r5 0 8 1).bind fun r6 => (hb_getR r5 r6 0 1).bind fun r7 => (hb_on r5 r7 6 (f_X6_pathObject r7 x y r5)).bind fun r8 => some (.inr r8.1, r8.2)) (fun _ => rfl) ?_ ?_ ?_ ?_ hC hA hB
  · show f_X8_pathAt 0 x y (pm I L r) = _
    unfold f_X8_pathAt
    simp only [pR_0_0, pbs, pO_h hp_1, x4_hasObject hp_1 hC.1 w]
  · intro e J K X R
    obtain ⟨o, ho, ha, hx⟩ := pa_isO_ex e
    subst hx
    refine ⟨J, K, ?_, fun _ _ => ⟨rfl, rfl⟩⟩
    simp only [pR_0_1, pbs, pR_12_1, pO_13, x6_path X.2.1 w ho, nI_clamp (show o < 2 ^ 31 from by omega)]
  · intro e J K r' hJ
    unfold f_X9_pathAt
    simp only [plit, pO_130, pbs, r9_isObject hJ.1 w, e, r9_need, r9_rf (show (if false = true then 0 else 1) ≤ 100 from by decide), bIn]
    rfl
  · intro e J K r' hJ
    obtain ⟨o, ho, ha, hx⟩ := pa_isO_ex e
    subst hx
    obtain ⟨J1, g1, g2, g3⟩ := r9_laysFar (L := K) (r := r') (mS_1 hJ) w
    have hN : pr_row (J1 131) A := by
      rw [g3 131 (by decide)]
      exact mS_1 hJ
    have hfin := px_fin A
    have hE : ∀ a b, pg_E A pg_0 pg_00 a b = true → b < 40 := fun a b h => pg_E_lt w a b h
    have hle := df_le w ho
    have hdf : (px_G A).2.2.1 o = px_df A o := rfl
    -- what is left of it
    have hmain : ∃ K1, f_X9_pathAt 130 (nI o) y (pm J K r') = some (px_pa A o y, pm J1 K1 r') ∧ ∀ a, a ≠ 140 → K1 a = K a := by
      unfold f_X9_pathAt px_pa
      simp only [plit, pO_130, pbs, r9_isObject hJ.1 w, e, r9_need, if_true, r9_rf (show 0 ≤ 100 from by decide), bIn, ne_eq, not_true, decide_false, g1, pR_130_13, pA_139 ho, g2 o ho, hdf]
      simp (disch := omega) only [mI_none]
      by_cases e0 : px_df A o = 0
      · rw [if_pos e0, e0]
        have : pn_at 0 y = none := by
          cases e1 : pn_at 0 y with
          | none => rfl
          | some q =>
            have := (pn_at_some (by decide) e1).1
            omega
        rw [this]
        exact ⟨K, rfl, fun _ _ => rfl⟩
      · obtain ⟨D, hD⟩ : ∃ D, px_df A o = D + 1 := ⟨px_df A o - 1, by omega⟩
        rw [if_neg e0, hD]
        simp only [mI_s, r9_in (show D + 1 < 2 ^ 31 from by omega), pbs, bIn]
        cases e1 : pn_at (D + 1) y with
        | none => exact ⟨K, rfl, fun _ _ => rfl⟩
        | some q =>
          obtain ⟨hq, hy⟩ := pn_at_some (by omega) e1
          subst hy
          simp only [Option.isSome_some, Bool.true_eq_false, if_false, pR_130_14, pR_130_13, pbs, pA_139 ho, g2 o ho, hD, mI_s]
          have hone := pb_one ho
          rw [hone, pS_140 (show D < 41 from by omega)]
          simp only [pbs, pR_130_13, pA_139 ho, g2 o ho, hD, mI_s]
          -- the layers, from the last one back
          have key : ∀ m (K1 : Nat → Nat → Int64), m ≤ D → (∀ a, a ≠ 140 → K1 a = K a) → (∀ i, i ≤ D - m → K1 140 (D - i) = hb_mk (px_th A o D i)) → ∀ F, m < F → ∃ K2, f_X9_pathAt_b71 F 130 (nI q) (mI m) (pm J1 K1 r') = some (nI (bs_an (px_G A) (D + 1 - 1 - q) o), pm J1 K2 r') ∧ ∀ a, a ≠ 140 → K2 a = K a := by
            intro m
            induction m with
            | zero =>
              intro K1 _ c1 c2 F hF
              obtain ⟨F, rfl⟩ : ∃ f, F = f + 1 := ⟨F - 1, by omega⟩
              refine ⟨K1, ?_, c1⟩
              have hth : ∀ i, i ≤ D → K1 140 i = hb_mk (px_th A o D (D - i)) := fun i hi => by
                have := c2 (D - i) (by omega)
                rw [show D - (D - i) = i from by omega] at this
                exact this
              have hG1 : (px_G A).2.2.1 o = D + 1 := hD
              have hanl := bs_anl hfin ho hG1
              have hant := bs_an_th (E := pg_E A pg_0 pg_00) hfin ho hG1
              have hf0 : f_X9_first (hb_mk (px_th A o D D)) (pm J1 K1 r') = some (nI (bs_an (px_G A) D o), pm J1 K1 r') := by
                refine r9_first (hanl D (Nat.le_refl D)).1 (px_th_iff.mpr (hant D (Nat.le_refl D))) (fun j hj => ?_)
                cases ej : px_th A o D D j
                · rfl
                · exfalso
                  have hj2 := px_th_iff.mp ej
                  have hj40 := th_lt w ho hj2
                  have hdj : px_df A j = 0 + 1 := by
                    cases D with
                    | zero =>
                      have hj2 : j = o := hj2
                      rw [hj2]
                      exact hD
                    | succ D =>
                      have := hj2.2.1
                      rw [show D + 1 - (D + 1) + 1 = 0 + 1 from by omega] at this
                      exact this
                  have hS : pg_S A pg_0 pg_0 j = true := ((df_D w hj40).mp hdj).1
                  have := bs_low0 hfin hE ho hG1 hj40 hj2 hS
                  omega
              have hloop : ∀ s n, s ≤ q → s < n → f_X9_pathAt_b172 n 130 (nI q) (nI (bs_an (px_G A) (D - (q - s)) o)) (nI (q - s + 1)) (pm J1 K1 r') = some (nI (bs_an (px_G A) (D - q) o), pm J1 K1 r') := by
                intro s
                induction s with
                | zero =>
                  intro n _ hn
                  obtain ⟨n, rfl⟩ : ∃ f, n = f + 1 := ⟨n - 1, by omega⟩
                  rw [f_X9_pathAt_b172]
                  simp (disch := omega) only [pn_lt, Nat.sub_zero]
                  rw [if_pos (by omega)]
                | succ s ih =>
                  intro n hs hn
                  obtain ⟨n, rfl⟩ : ∃ f, n = f + 1 := ⟨n - 1, by omega⟩
                  obtain ⟨i, hi⟩ : ∃ i, i = q - (s + 1) := ⟨_, rfl⟩
                  have hi2 : q - s = i + 1 := by omega
                  have := ih n (by omega) (by omega)
                  rw [hi2] at this
                  rw [← hi, ← this]
                  obtain ⟨a1, a2⟩ := hanl (D - i) (by omega)
                  obtain ⟨b1, b2⟩ := hanl (D - (i + 1)) (by omega)
                  have hdi : D - i = (D - (i + 1)) + 1 := by omega
                  have hpar : pg_E A pg_0 pg_00 (bs_an (px_G A) (D - i) o) (bs_an (px_G A) (D - (i + 1)) o) = true := by
                    have h9 := bs_par hfin b1 (d := i) (by rw [b2]; omega)
                    rw [hdi]
                    exact h9.2.2
                  have haa : A (bs_an (px_G A) (D - i) o) 0 ≠ 0 := df_al w a1 (by unfold px_df; omega)
                  have hfst : f_X9_first (hb_mk (fun j => pa_e A pg_00 (bs_an (px_G A) (D - i) o) j && px_th A o D (D - (i + 1)) j)) (pm J1 K1 r') = some (nI (bs_an (px_G A) (D - (i + 1)) o), pm J1 K1 r') := by
                    refine r9_first b1 ?_ (fun j hj => ?_)
                    · simp only [Bool.and_eq_true]
                      rw [pg_E00 a1] at hpar
                      exact ⟨hpar, px_th_iff.mpr (hant _ (by omega))⟩
                    · cases ej : pa_e A pg_00 (bs_an (px_G A) (D - i) o) j && px_th A o D (D - (i + 1)) j
                      · rfl
                      · exfalso
                        simp only [Bool.and_eq_true] at ej
                        have hj2 := px_th_iff.mp ej.2
                        have hj40 := th_lt w ho hj2
                        have := bs_low hfin hE ho hG1 (n := D - (i + 1)) (by omega) hj40 hj2 (by rw [← hdi, pg_E00 a1]; exact ej.1)
                        omega
                  rw [f_X9_pathAt_b172]
                  simp (disch := omega) only [pn_lt, plit, pO_130, r9_refersTo hN w a1 haa, pbs, pR_130_14, pA_140, hth, pa_e_none2 a1, pb_and, hfst, nI_add]
                  rw [if_neg (by omega)]
              rw [f_X9_pathAt_b71, if_pos (by decide)]
              have h0 := hth 0 (by omega)
              rw [Nat.sub_zero] at h0
              simp (disch := omega) only [plit, pR_130_14, pbs, pA_140, h0, hf0]
              have := hloop q hb_FU (Nat.le_refl q) (Nat.lt_of_le_of_lt (show q ≤ 40 from by omega) (by decide))
              rw [Nat.sub_self, Nat.sub_zero] at this
              exact this
            | succ m ih =>
              intro K1 hm c1 c2 F hF
              obtain ⟨F, rfl⟩ : ∃ f, F = f + 1 := ⟨F - 1, by omega⟩
              obtain ⟨i, hi⟩ : ∃ i, i = D - (m + 1) := ⟨_, rfl⟩
              have hK : ∀ a, a ≠ 140 → up2 K1 140 m (hb_mk (px_th A o D (i + 1))) a = K a := fun a ha => by rw [up2_a ha, c1 a ha]
              obtain ⟨K2, k1, k2⟩ := ih (up2 K1 140 m (hb_mk (px_th A o D (i + 1)))) (by omega) hK (fun z hz => by
                by_cases ez : z = i + 1
                · subst ez
                  rw [show D - (i + 1) = m from by omega, up2_eq]
                · rw [up2_nj (by omega)]
                  exact c2 z (by omega)) F (by omega)
              refine ⟨K2, ?_, k2⟩
              rw [← k1, f_X9_pathAt_b71, mI_s, if_neg (nI_pos (by omega))]
              simp (disch := omega) only [plit, pR_130_14, pbs, pS_140]
              have hnext : K1 140 (m + 1) = hb_mk (px_th A o D i) := by
                have := c2 i (by omega)
                rw [show D - i = m + 1 from by omega] at this
                exact this
              have hl := pm_seq (fun n (a : Nat → Nat → Int64) z => f_X9_pathAt_b85 (f_X9_pathAt_b71 F) n 130 (nI q) (nI m) (nI z) (pm J1 a r')) (fun z => up2 K1 140 m (hb_mk (fun j => decide (j < z) && px_th A o D (i + 1) j))) 40 (out := f_X9_pathAt_b71 F 130 (nI q) (mI m) (pm J1 (up2 K1 140 m (hb_mk (px_th A o D (i + 1)))) r')) (by
                intro n z hz
                have hst := th_step w (d := D) (n := i) ho hz
                have hpb := pb_step (px_th A o D (i + 1)) z
                have hone := pb_one hz
                have hzle := df_le w hz
                rw [show D - (i + 1) + 1 = m + 1 from by omega] at hst
                simp (disch := omega) only [f_X9_pathAt_b85, f_X9_pathAt_b147, plit, pn_le, pO_130, r9_isObj hN w hz, pbs, bIn, pR_130_13, pA_139, g2 z hz, mI_nI, nI_add]
                rw [if_neg (show ¬ 40 ≤ z from by omega), ← hpb]
                by_cases haz : A z 0 = 0
                · have : px_th A o D (i + 1) z = false := by
                    rw [hst]
                    have : ¬ px_df A z = m + 1 := fun h => df_al w hz (by omega) haz
                    simp [this]
                  rw [if_pos (by simp [pa_al, haz]), this]
                  simp only [Bool.false_eq_true, if_false, pb_or_0]
                · rw [if_neg (by simp [pa_al, haz])]
                  by_cases ed : px_df A z = m + 1
                  · rw [if_pos ed]
                    simp (disch := omega) only [r9_refersTo hN w hz haz, pbs, pR_130_14, pA_140, up2_nj, hnext, pa_e_none2 hz, pb_and, pb_cmpE, up2_eq, hone, pS_140, up2_up2]
                    by_cases ez : hb_mk (fun j => pa_e A pg_00 z j && px_th A o D i j) = 0
                    · have : px_th A o D (i + 1) z = false := by
                        rw [hst, (pq_any_false _ _).mpr (fun c hc => pb_zero.mp ez c hc), Bool.and_false]
                      rw [if_pos ez, this]
                      simp only [Bool.false_eq_true, if_false, pb_or_0]
                    · have : px_th A o D (i + 1) z = true := by
                        rw [hst]
                        simp only [ed, decide_true, Bool.true_and]
                        apply Classical.byContradiction
                        intro hn
                        apply ez
                        apply pb_zero.mpr
                        have hf := (pq_any_false _ _).mp (by simpa using hn)
                        exact hf
                      rw [if_neg ez, this]
                      simp only [if_true]
                  · have : px_th A o D (i + 1) z = false := by
                      rw [hst]
                      simp [ed]
                    rw [if_neg ed, this]
                    simp only [Bool.false_eq_true, if_false, pb_or_0]) (by
                intro n
                rw [f_X9_pathAt_b85, if_pos (by decide)]
                have hdec : nI m + (-1 : Int32) = mI m := by
                  rw [show (-1 : Int32) = -nI 1 from by decide, ← Int32.sub_eq_add_neg]
                  rfl
                rw [hdec, pb_congr (p := fun j => decide (j < 40) && px_th A o D (i + 1) j) (q := px_th A o D (i + 1)) (fun j hj => by simp [hj])]) hb_FU (by decide)
              have e0 : hb_mk (fun j => decide (j < 0) && px_th A o D (i + 1) j) = 0 := by
                rw [← pb_0]
                exact pb_congr (fun j _ => by simp)
              simp only [e0] at hl
              exact hl
          have hdec : nI D - nI 1 = mI D := rfl
          rw [hdec]
          refine key D (up2 K 140 D (hb_mk (fun j => decide (j = o)))) (Nat.le_refl D) (fun a ha => up2_a ha) (fun i hi => ?_) hb_FU (Nat.lt_of_le_of_lt (show D ≤ 40 from by omega) (by decide))
          have : i = 0 := by omega
          subst this
          rw [Nat.sub_zero, up2_eq]
          apply pb_congr
          intro j _
          apply Bool.eq_iff_iff.mpr
          rw [px_th_iff, decide_eq_true_eq]
          exact Iff.rfl
    obtain ⟨K1, h1, h2⟩ := hmain
    refine ⟨J1, K1, by rw [nI_clamp (show o < 2 ^ 31 from by omega)]; exact h1, by rw [g3 130 (by decide), up2_eq], mK_tr mK_rf ⟨fun a ha => g3 a (by omega), by rw [g3 130 (by decide)], by rw [g3 130 (by decide)]⟩, fun a ha => ⟨by rw [g3 a (by omega), up2_a (by omega)], h2 a (by omega)⟩⟩
end FAR
