/-! group and accumulationPoint -/
section GRP
variable {I J : Nat → Nat → Int32} {L K : Nat → Nat → Int64} {r : Nat → Option Nat} {A : Nat → Nat → Nat} {n : Nat} {H : Nat → Nat → Nat → Nat} {t : Nat} {T : Nat → Nat} {P : Nat → Nat → Nat → Nat} {k : Nat → Bool} {B : Nat}
set_option maxRecDepth 8192 in
theorem opK_no2 {β : Type} {fL : hb_M → Option (Int32 × hb_M)} {fM : hb_M → Option (β × hb_M)} {wd : β → Int64} (v : β) {c : Nat} (hc : c ≤ 3) (h0 : c ≠ 0) (hL : ∃ J K, fL (pm I L r) = some (nI c, pm J K r) ∧ cS J K r A n H t T P k B ∧ ∀ a, 130 ≤ a → a < 148 → J a = I a ∧ K a = L a) (hM : ∀ J K r', mS J A n H t T P k → ∃ v' J' K', fM (pm J K r') = some (v', pm J' K' r') ∧ J' 130 4 = nI c ∧ mK J J' ∧ mO J J' K K') (hA : aS A n H t T P k B) (hB : B + 1000 < 2 ^ 29) : opK fL fM wd I L r A n H t T P k B := by
  obtain ⟨J, K, e1, e2, e3⟩ := hL
  refine ⟨c, v, A, n, H, t, T, P, k, hc, ⟨J, K, r, e1, fun h => absurd h h0, cS_le e2 (by omega), e3⟩, ?_, aS_le hA (by omega) hB⟩
  intro J K r' hJ
  obtain ⟨v', J', K', e1, e2, e3, e4⟩ := hM J K r' hJ
  exact ⟨v', J', K', e1, fun h => absurd h h0, e2, mS_fr hJ e3, e4⟩
set_option maxRecDepth 8192 in
theorem pa_isG_ex {x : Int32} (w : pa_wf A) (h : pa_isG A x = true) : ∃ g, x = nI g ∧ g < 12 ∧ (g < A 40 0 ∨ 10 ≤ g) := by
  have h10 := pa_cc10 w
  unfold pa_isG at h
  simp only [Bool.or_eq_true, decide_eq_true_eq] at h
  rcases h with (h | h) | h
  · unfold pa_isC at h
    obtain ⟨c, hc⟩ := Option.isSome_iff_exists.mp h
    obtain ⟨h1, h2⟩ := pn_at_some (by omega) hc
    exact ⟨c, h2, by omega, Or.inl h1⟩
  · exact ⟨10, h, by omega, Or.inr (by omega)⟩
  · exact ⟨11, h, by omega, Or.inr (by omega)⟩
set_option maxRecDepth 8192 in
theorem r9_isGroup (hN : pr_row (I 131) A) (w : pa_wf A) (x : Int32) : f_X9_isGroup 130 x (pm I L r) = some (bI (pa_isG A x), pm I L r) := by
  unfold f_X9_isGroup pa_isG
  simp only [plit, pO_130, pbs, r9_isClass hN w, bIn]
  cases pa_isC A x
  · by_cases e1 : x = nI 10
    · simp [e1, bI_t]
    · by_cases e2 : x = nI 11
      · simp [e2, bI_t]
      · simp [e1, e2, bI_f]
  · simp [bI_t]
set_option maxRecDepth 8192 in
theorem r9_groupSet (hN : pr_row (I 131) A) (w : pa_wf A) {g : Nat} (hg : g < 12) (b : Bool) : f_X9_groupSet 130 (nI g) (bI b) (pm I L r) = some (hb_mk (pa_grp A g b), pm I L r) := by
  have h10 := pa_cc10 w
  unfold f_X9_groupSet
  have hl := pm_loop (fun n a i => f_X9_groupSet_b5 n 130 (nI g) (bI b) a (nI i) (pm I L r)) (fun i a => a ||| (if pa_grp A g b i = true then hb_mk (fun j => decide (j = i)) else 0)) 40 (out := fun a => some (a, pm I L r)) (by
    intro n a i hi
    have hone := pb_one hi
    simp (disch := omega) only [f_X9_groupSet_b5, f_X9_groupSet_b68, f_X9_groupSet_b72, f_X9_groupSet_b73, f_X9_groupSet_b89, f_X9_groupSet_b91, plit, pn_le, pO_130, r9_isObj hN w hi, pbs, bIn, hone, nI_add, show (nI 1 = nI 0) = False from eq_false (by decide), if_false, if_true]
    rw [if_neg (show ¬ 40 ≤ i from by omega)]
    by_cases ha : A i 0 = 0
    · simp [pa_grp, pa_al, ha]
    · have h1 := (hN.2.2.2 i hi).1 1 (by decide)
      have hgi := pa_gr w hi ha
      obtain ⟨hk, -⟩ := w.2.2.2.1 i hi ha
      have e1 : pa_al A i = true := by simp [pa_al, ha]
      rw [e1, if_neg (by decide)]
      simp (disch := omega) only [pbs, pO_130, pR_130_0, pA_131, pS_131, plit, nI_add, pk_mul, pn_le, pn_lt, if_true, if_false, reduceIte, r9_at, h1, pn_eq]
      by_cases e2 : A i 1 = g
      · simp [pa_grp, e1, e2]
      · rw [if_neg e2]
        cases b
        · simp [pa_grp, e1, e2]
        · rw [if_neg (by decide)]
          by_cases e3 : 10 ≤ g
          · rw [if_pos e3]
            simp [pa_grp, e2, pa_below_no w (c := A i 1) (Or.inr e3)]
          · rw [if_neg e3]
            by_cases e4 : 10 ≤ A i 1
            · rw [if_pos e4]
              simp [pa_grp, e2, pa_below_no w (t := g) (Or.inl e4)]
            · have hc : A i 1 < A 40 0 := by omega
              have hb : pa_bl A hb_FU (A i 1 + 1) g = pa_below A (A i 1) g := by
                unfold pa_below
                rw [pa_bl_fuel w g 11 hb_FU (A i 1 + 1) (by omega) (by omega) (Nat.lt_of_lt_of_le (show A i 1 + 1 < 12 from by omega) (by decide))]
                simp [hc]
              rw [if_neg e4, r9_isBelow hN w hc (by omega), hb]
              simp only [pbs, bIn]
              cases e5 : pa_below A (A i 1) g <;> simp [pa_grp, e1, e2, e5]) (by
    intro n a
    rw [f_X9_groupSet_b5, if_pos (by decide)]) 0 hb_FU (by decide)
  refine hl.trans ?_
  rw [pm_fold_set]
set_option maxRecDepth 8192 in
theorem ok_group (x y : Int32) (b : Bool) (hC : cS I L r A n H t T P k B) (hA : aS A n H t T P k B) (hB : B + 1000 < 2 ^ 29) : opK (fun σ => f_L_group 0 x y (bI b) 148 σ) (fun σ => f_X9_group 130 x y (bI b) σ) Int32.toInt64 I L r A n H t T P k B := by
  have w := hA.2.1
  have hX : f_X8_group 0 x y (bI b) (pm I L r) = hb_xb (f_X8_refuse (nI (pz_of (pa_isG A x) y 3)) (pm I L r)) fun v4 r4 => (hb_getR r4 0 8 1).bind fun r5 => (hb_on r4 r5 0 (f_X0_refresh r5 r4)).bind fun r6 => (hb_getR r6 0 8 0).bind fun r7 => (hb_on r6 r7 4 (f_X4_membersOf r7 x (bI b) r6)).bind fun r8 => if y = (0 : Int32) then (f_J13_bitCount_95d88 r8.1 r8.2).bind fun r10 => some (.inr r10.1, r10.2) else if y = (1 : Int32) then (hb_getR r8.2 0 8 1).bind fun r12 => (hb_getR r8.2 r12 0 1).bind fun r13 => (hb_getL r8.2 r13 6 4).bind fun r14 => (f_J13_bitCount_95d88 (r8.1 &&& r14) r8.2).bind fun r15 => some (.inr r15.1, r15.2) else if y = (2 : Int32) then (hb_getR r8.2 0 8 0).bind fun r17 => (hb_on r8.2 r17 4 (f_X4_sizeOfAll r17 r8.1 r8.2)).bind fun r18 => some (.inr r18.1, r18.2) else (hb_getR r8.2 0 8 1).bind fun r19 => (hb_on r8.2 r19 0 (f_X0_lostWithout r19 r8.1 r8.2)).bind fun r20 => some (.inr r20.1, r20.2) := by
    unfold f_X8_group
    simp (disch := decide) only [pR_0_0, pbs, pO_h hp_1, x4_hasGroup hp_1 hC.1 w, show (3 : Int32) = nI 3 from rfl, x8_problemOf]
  rw [pz_xb (pz_of_le _ _ _)] at hX
  have hR : ∀ (J : Nat → Nat → Int32) (K : Nat → Nat → Int64) (r' : Nat → Option Nat), mS J A n H t T P k → f_X9_group 130 x y (bI b) (pm J K r') = f_X9_group_b27 130 x y (bI b) 130 (nI (pz_of (pa_isG A x) y 3)) (pm J K r') := by
    intro J K r' hJ
    unfold f_X9_group pz_of
    simp only [plit, pO_130, pbs, r9_isGroup hJ.1 w, bIn, r9_in (show 3 + 1 < 2 ^ 31 from by decide)]
    cases pa_isG A x
    · rfl
    · cases (pn_at (3 + 1) y).isSome <;> rfl
  by_cases e0 : pz_of (pa_isG A x) y 3 = 0
  · rw [if_pos e0] at hX
    have e9 := e0
    unfold pz_of at e9
    cases e : pa_isG A x
    · rw [e] at e9; cases e9
    · obtain ⟨g, hx, hg, -⟩ := pa_isG_ex w e
      subst hx
      rw [e] at e9
      cases e2 : pn_at (3 + 1) y with
      | none => rw [e2] at e9; cases e9
      | some q =>
        obtain ⟨hq, hy⟩ := pn_at_some (by omega) e2
        subst hy
        obtain ⟨J, K, g1, g2, g3, g4⟩ := cS_refresh hC hA
        have hmem : f_X4_membersOf 1 (nI g) (bI b) (pm J K r) = some (hb_mk (pa_grp A g b), pm J K r) := x4_membersOf hp_1 g2.1 w hg b
        have hal : ∀ o, o < 40 → pa_grp A g b o = true → A o 0 ≠ 0 := fun o _ h => by
          unfold pa_grp at h
          simp only [Bool.and_eq_true] at h
          simpa [pa_al] using h.1
        obtain ⟨J2, K2, l1, l2⟩ := x0_lostSet (r := r) g2.1 w g3 (pa_grp A g b)
        obtain ⟨vq, hvq⟩ : ∃ vq : Int32, vq = if q = 0 then nI (fb_ct (pa_grp A g b) 40) else if q = 1 then nI (fb_ct (fun j => pa_grp A g b j && px_R A j) 40) else if q = 2 then nI (fb_sm (fun o => if pa_grp A g b o then pa_so A o else 0) 40) else nI (px_ls A (pa_grp A g b) pg_00 pg_0) := ⟨_, rfl⟩
        refine opK_ask vq ?_ ?_ hA hB
        · by_cases e3 : q = 3
          · refine ⟨J2, K2, ?_, cS_fr g2 (fun a _ h => l2 a h), fun a a1 a2 => ⟨by rw [(l2 a (by omega)).1, (g4 a (by omega)).1], by rw [(l2 a (by omega)).2, (g4 a (by omega)).2]⟩⟩
            show f_L_group 0 (nI g) (nI q) (bI b) 148 (pm I L r) = _
            unfold f_L_group
            refine xc_in ?_
            subst e3
            rw [hX, hvq]
            simp (disch := omega) only [pR_0_1, pR_0_0, pbs, pO_12, g1, pO_h hp_1, hmem, plit, pn_eq, show ¬ (3 : Nat) = 0 from by decide, show ¬ (3 : Nat) = 1 from by decide, show ¬ (3 : Nat) = 2 from by decide, if_false, l1]
          · refine ⟨J, K, ?_, g2, fun a a1 a2 => g4 a (by omega)⟩
            show f_L_group 0 (nI g) (nI q) (bI b) 148 (pm I L r) = _
            unfold f_L_group
            refine xc_in ?_
            rw [hX, hvq]
            simp (disch := omega) only [pR_0_1, pR_0_0, pbs, pO_12, g1, pO_h hp_1, hmem, plit, pn_eq, pc_bitCount, pR_12_1, pI_13_4, g3.2.2.1, pb_and, x4_sizeOfAll hp_1 g2.1 (pa_grp A g b) hal]
            match q, hq, e3 with
            | 0, _, _ => rfl
            | 1, _, _ => rfl
            | 2, _, _ => rfl
            | 3, _, h => exact absurd rfl h
        · intro J K r' hJ
          have hN := mS_1 hJ
          have hre := r9_reached (L := K) (r := r') hN w (pa_grp A g b) (-nI 1) (-nI 1) (-nI 1)
          rw [pg_b_none] at hre
          refine ⟨_, K, ?_, up2_eq, mK_rf (x := nI 0), mO_rf⟩
          show f_X9_group 130 (nI g) (nI q) (bI b) (pm J K r') = _
          rw [hR J K r' hJ, e0, hvq]
          unfold f_X9_group_b27
          simp (disch := omega) only [plit, pO_130, pbs, r9_rf (show 0 ≤ 100 from by decide), bIn, ne_eq, not_true, decide_false, if_true, r9_groupSet hN w hg, r9_all hN w, pn_eq, r9_bits, pb_and, r9_sizes hN w (pa_grp A g b) hal, lN_i, hre, pb_anot, r9_lost hN w]
          match q, hq with
          | 0, _ => rfl
          | 1, _ => rfl
          | 2, _ => rfl
          | 3, _ => rfl
  · rw [if_neg e0] at hX
    refine opK_rf (nI 0) (c := pz_of (pa_isG A x) y 3) (pz_of_le _ _ _) e0 ?_ ?_ hC hA hB
    · show f_L_group 0 x y (bI b) 148 (pm I L r) = _
      unfold f_L_group
      rw [xc_ex hX]
      have hle : pz_of (pa_isG A x) y 3 = 0 ∨ pz_of (pa_isG A x) y 3 = 1 ∨ pz_of (pa_isG A x) y 3 = 2 := by
        unfold pz_of
        split
        · split <;> simp
        · simp
      rcases hle with h | h | h
      · exact absurd h e0
      · rw [h]; rfl
      · rw [h]; rfl
    · intro J K r' hJ
      show f_X9_group 130 x y (bI b) (pm J K r') = _
      rw [hR J K r' hJ]
      unfold f_X9_group_b27
      simp only [plit, pO_130, pbs, r9_rf (show pz_of (pa_isG A x) y 3 ≤ 100 from Nat.le_trans (pz_of_le _ _ _) (by decide)), bIn]
      rw [if_neg (by simp [e0])]
set_option maxRecDepth 8192 in
theorem nx_spec {p o b : Nat} (ho : o < 40) (h : px_nx A p o = b + 1) : b < 40 ∧ px_R A b = true ∧ px_im A b = o + 1 := by
  obtain ⟨h1, h2, -⟩ := (px_gr_spec A (px_hv A (px_ch A (nI o)) p (pd_rt A o)) 40).2 b h
  unfold px_hv px_ch at h2
  simp only [Bool.and_eq_true, decide_eq_true_eq] at h2
  have hle := px_im_le A b
  have h3 := h2.1.2
  rw [mI_nI (by omega) (by omega)] at h3
  exact ⟨h1, h2.1.1, h3⟩
set_option maxRecDepth 8192 in
theorem ac_more {p : Nat} : ∀ m o n, o < 40 → 40 - fb_ct (pd_D A o) 40 ≤ m → m ≤ n → px_ac A p n o = px_ac A p m o := by
  intro m
  induction m with
  | zero =>
    intro o n ho hm _
    cases n with
    | zero => rfl
    | succ n =>
      have hct := fb_ct_le (pd_D A o) 40
      show (if px_nx A p o = 0 then o else px_ac A p n (px_nx A p o - 1)) = o
      by_cases e : px_nx A p o = 0
      · rw [if_pos e]
      · obtain ⟨b, hb⟩ : ∃ b, px_nx A p o = b + 1 := ⟨px_nx A p o - 1, by omega⟩
        have := (pi_im_spec (nx_spec ho hb).2.2).2
        have := fb_ct_le (pd_D A b) 40
        omega
  | succ m ih =>
    intro o n ho hm hn
    obtain ⟨n, rfl⟩ : ∃ q, n = q + 1 := ⟨n - 1, by omega⟩
    show (if px_nx A p o = 0 then o else px_ac A p n (px_nx A p o - 1)) = (if px_nx A p o = 0 then o else px_ac A p m (px_nx A p o - 1))
    by_cases e : px_nx A p o = 0
    · rw [if_pos e, if_pos e]
    · obtain ⟨b, hb⟩ : ∃ b, px_nx A p o = b + 1 := ⟨px_nx A p o - 1, by omega⟩
      obtain ⟨b1, -, b3⟩ := nx_spec ho hb
      have := (pi_im_spec b3).2
      rw [if_neg e, if_neg e, hb, Nat.add_sub_cancel, ih b n b1 (by omega) (by omega)]
set_option maxRecDepth 8192 in
theorem r9_next (hN : pr_row (I 131) A) (w : pa_wf A) (hR : mR L A) {o p : Nat} (ho : o < 40) (hp : p ≤ 100) (F : Nat) : f_X9_accumulationPoint_b80 (f_X9_accumulationPoint_b65 F) hb_FU 130 (nI p) (nI o) (-nI 1) (nI 0) (pm I L r) = f_X9_accumulationPoint_b65 F 130 (nI p) (nI o) (mI (px_nx A p o)) (pm I L r) := by
  obtain ⟨c, hc⟩ : ∃ c, c = px_hv A (px_ch A (nI o)) p (pd_rt A o) := ⟨_, rfl⟩
  have lo := pd_rt_le w o
  have l3 : p * pd_rt A o ≤ 100 * 17600 := Nat.mul_le_mul hp lo
  have hl := pm_seq (fun m (a : Nat) i => f_X9_accumulationPoint_b80 (f_X9_accumulationPoint_b65 F) m 130 (nI p) (nI o) (mI a) (nI i) (pm I L r)) (fun i => px_gr A c i) 40 (out := f_X9_accumulationPoint_b65 F 130 (nI p) (nI o) (mI (px_nx A p o)) (pm I L r)) (by
    intro m i hi
    have li := pd_rt_le w i
    have hle := px_gr_le A c i
    have him := px_im_le A i
    have hs : px_gr A c (i + 1) = if (c i && (decide (px_gr A c i = 0) || decide (pd_rt A (px_gr A c i - 1) < pd_rt A i))) = true then i + 1 else px_gr A c i := rfl
    have hci : c i = (px_R A i && decide (px_im A i = o + 1) && decide (p * pd_rt A o ≤ pd_rt A i * 100)) := by
      rw [hc]
      unfold px_hv px_ch
      congr 2
      exact decide_eq_decide.mpr (by rw [mI_nI (by omega) (by omega)])
    have hn10 : (nI 1 = nI 0) = False := eq_false (by decide)
    simp (disch := omega) only [f_X9_accumulationPoint_b80, f_X9_accumulationPoint_b134, f_X9_accumulationPoint_b135, f_X9_accumulationPoint_b163, f_X9_accumulationPoint_b168, f_X9_accumulationPoint_b170, plit, pn_le, pO_130, r9_isReached hR hi, pbs, bIn, r9_immediate hR w hi, mI_nI, r9_retBy hN w hR hi, r9_retBy hN w hR ho, nI_l, lN_100, lN_mul, lg_ltE, lN_ltE, hn10, if_true, if_false, mI_none, nI_add]
    rw [if_neg (show ¬ 40 ≤ i from by omega), hs, hci]
    cases e1 : px_R A i
    · simp
    · rw [if_neg (show ¬ true = false from by decide)]
      by_cases e2 : px_im A i = o + 1
      · rw [if_pos e2]
        by_cases e3 : p * pd_rt A o ≤ pd_rt A i * 100
        · rw [if_neg (show ¬ pd_rt A i * 100 < p * pd_rt A o from by omega)]
          simp only [e2, e3, decide_true, Bool.and_self, Bool.true_and]
          by_cases e4 : px_gr A c i = 0
          · simp [e4, mI_s]
          · obtain ⟨b, hb⟩ : ∃ b, px_gr A c i = b + 1 := ⟨px_gr A c i - 1, by omega⟩
            have lb := pd_rt_le w b
            rw [if_neg e4]
            simp (disch := omega) only [hb, mI_s, Nat.add_sub_cancel, r9_retBy hN w hR, pbs, pn_le]
            by_cases e5 : pd_rt A b < pd_rt A i
            · rw [if_neg (show ¬ pd_rt A i ≤ pd_rt A b from by omega)]
              simp [e5, mI_s]
            · rw [if_pos (show pd_rt A i ≤ pd_rt A b from by omega)]
              simp [e5, mI_s]
        · rw [if_pos (show pd_rt A i * 100 < p * pd_rt A o from by omega)]
          simp [e3]
      · rw [if_neg e2]
        simp [e2]) (by
    intro m
    rw [f_X9_accumulationPoint_b80, if_pos (by decide), hc]
    rfl) hb_FU (by decide)
  exact hl
set_option maxRecDepth 8192 in
theorem r9_acc (hN : pr_row (I 131) A) (w : pa_wf A) (hR : mR L A) {p : Nat} (hp : p ≤ 100) : ∀ m o F (x : Int32), o < 40 → 40 - fb_ct (pd_D A o) 40 ≤ m → m + 1 < F → f_X9_accumulationPoint_b65 F 130 (nI p) x (nI o) (pm I L r) = some (nI (px_ac A p m o), pm I L r) := by
  intro m
  induction m with
  | zero =>
    intro o F x ho hm hF
    obtain ⟨F, rfl⟩ : ∃ q, F = q + 1 + 1 := ⟨F - 2, by omega⟩
    have hnx : px_nx A p o = 0 := by
      apply Classical.byContradiction
      intro e
      obtain ⟨b, hb⟩ : ∃ b, px_nx A p o = b + 1 := ⟨px_nx A p o - 1, by omega⟩
      have := (pi_im_spec (nx_spec ho hb).2.2).2
      have := fb_ct_le (pd_D A b) 40
      omega
    rw [f_X9_accumulationPoint_b65]
    simp (disch := omega) only [plit, nI_m1, if_false, r9_next hN w hR ho hp]
    rw [hnx, mI_0, f_X9_accumulationPoint_b65]
    simp only [plit, if_true]
    rfl
  | succ m ih =>
    intro o F x ho hm hF
    obtain ⟨F, rfl⟩ : ∃ q, F = q + 1 + 1 := ⟨F - 2, by omega⟩
    rw [f_X9_accumulationPoint_b65]
    simp (disch := omega) only [plit, nI_m1, if_false, r9_next hN w hR ho hp]
    show _ = some (nI (if px_nx A p o = 0 then o else px_ac A p m (px_nx A p o - 1)), pm I L r)
    by_cases e : px_nx A p o = 0
    · rw [if_pos e, e, mI_0, f_X9_accumulationPoint_b65]
      simp only [plit, if_true]
    · obtain ⟨b, hb⟩ : ∃ b, px_nx A p o = b + 1 := ⟨px_nx A p o - 1, by omega⟩
      obtain ⟨b1, -, b3⟩ := nx_spec ho hb
      have := (pi_im_spec b3).2
      rw [if_neg e, hb, mI_s, Nat.add_sub_cancel, ih b (F + 1) (nI o) b1 (by omega) (by omega)]
set_option maxRecDepth 8192 in
theorem ok_accumulationPoint (x y : Int32) (hC : cS I L r A n H t T P k B) (hA : aS A n H t T P k B) (hB : B + 1000 < 2 ^ 29) : opK (fun σ => f_L_accumulationPoint 0 x y 148 σ) (fun σ => f_X9_accumulationPoint 130 x y σ) Int32.toInt64 I L r A n H t T P k B := by
  have w := hA.2.1
  have hX : f_X8_accumulationPoint 0 x y (pm I L r) = hb_xb (f_X8_refuseUnless (bI (pa_isO A x)) (pm I L r)) fun v3 r3 => (f_X8_isPercent y r3).bind fun r4 => if r4.1 = 0 then f_X8_accumulationPoint_b23 0 x y (2 : Int32) r4.2 else f_X8_accumulationPoint_b23 0 x y (0 : Int32) r4.2 := by
    unfold f_X8_accumulationPoint
    simp only [pR_0_0, pbs, pO_h hp_1, x4_hasObject hp_1 hC.1 w]
  rw [pz_xu] at hX
  cases e : pa_isO A x
  · rw [e] at hX
    refine opK_rf (nI 0) (c := 1) (by decide) (by decide) ?_ ?_ hC hA hB
    · show f_L_accumulationPoint 0 x y 148 (pm I L r) = _
      unfold f_L_accumulationPoint
      rw [xc_ex hX]
      exact if_pos rfl
    · intro J K r' hJ
      show f_X9_accumulationPoint 130 x y (pm J K r') = _
      unfold f_X9_accumulationPoint f_X9_accumulationPoint_b12 f_X9_accumulationPoint_b52
      simp only [plit, pO_130, pbs, r9_isObject hJ.1 w, e, bIn, if_true, r9_rf (show 1 ≤ 100 from by decide)]
      rfl
  · rw [e, if_pos rfl] at hX
    obtain ⟨o, ho, ha, hx⟩ := pa_isO_ex e
    subst hx
    simp only [x8_isPercent, pbs, plit, bIn] at hX
    by_cases e1 : ¬ y < nI 1 ∧ ¬ nI 100 < y
    · obtain ⟨p, hy, hp1, hp⟩ := pc_ex e1
      subst hy
      obtain ⟨J, K, g1, g2, g3, g4⟩ := cS_refresh hC hA
      rw [decide_eq_true e1, if_neg (by decide)] at hX
      unfold f_X8_accumulationPoint_b23 at hX
      rw [pz_xb (by decide), if_pos rfl] at hX
      simp only [pR_0_1, pbs, pO_12, g1, pR_12_1, pI_13_4, g3.2.2.1, x8_containsN ho, plit, bIn] at hX
      unfold f_X8_accumulationPoint_b55 at hX
      cases e2 : px_R A o
      · rw [e2, if_pos rfl, pz_xb (by decide), if_neg (by decide)] at hX
        refine opK_no2 (nI 0) (c := 3) (by decide) (by decide) ⟨J, K, ?_, g2, fun a a1 a2 => g4 a (by omega)⟩ ?_ hA hB
        · show f_L_accumulationPoint 0 (nI o) (nI p) 148 (pm I L r) = _
          unfold f_L_accumulationPoint
          rw [xc_ex hX]
          rfl
        · intro J K r' hJ
          obtain ⟨K1, h1, h2, h3, h4⟩ := r9_laysRet (L := K) (r := r') hJ.1 w
          refine ⟨nI 0, up2 J 130 4 (nI 3), K1, ?_, up2_eq, mK_rf, fun a ha => ⟨up2_a (by omega), h3 a (by omega) (by omega)⟩⟩
          unfold f_X9_accumulationPoint f_X9_accumulationPoint_b12 f_X9_accumulationPoint_b52
          simp only [plit, pO_130, pbs, r9_isObject hJ.1 w, e, bIn, Bool.true_eq_false, if_false, h1, r9_within, decide_eq_true e1, r9_isReached h2 ho, e2, if_true, r9_rf (show 3 ≤ 100 from by decide)]
          rfl
      · rw [e2, if_neg (by decide), pz_xb (by decide), if_pos rfl] at hX
        have hac := x0_acc (r := r) g3 w hp hb_FU 0 o (by decide) (by decide) ho
        rw [show 40 - 0 = 40 from rfl] at hac
        refine opK_ask (nI (px_ac A p 40 o)) ⟨J, K, ?_, g2, fun a a1 a2 => g4 a (by omega)⟩ ?_ hA hB
        · show f_L_accumulationPoint 0 (nI o) (nI p) 148 (pm I L r) = _
          unfold f_L_accumulationPoint
          refine xc_in ?_
          rw [hX]
          unfold f_X0_accumulationFrom
          simp only [pR_0_1, pbs, pO_12, plit, hac]
        · intro J K r' hJ
          obtain ⟨K1, h1, h2, h3, h4⟩ := r9_laysRet (L := K) (r := r') hJ.1 w
          refine ⟨up2 J 130 4 (nI 0), K1, ?_, up2_eq, mK_rf, fun a ha => ⟨up2_a (by omega), h3 a (by omega) (by omega)⟩⟩
          unfold f_X9_accumulationPoint f_X9_accumulationPoint_b12 f_X9_accumulationPoint_b52
          simp only [plit, pO_130, pbs, r9_isObject hJ.1 w, e, bIn, Bool.true_eq_false, if_false, h1, r9_within, decide_eq_true e1, r9_isReached h2 ho, e2, r9_rf (show 0 ≤ 100 from by decide), ne_eq, not_true, decide_false, if_true]
          exact r9_acc (mS_1 hJ) w h2 hp 40 o hb_FU _ ho (by omega) (by decide)
    · rw [decide_eq_false e1, if_pos rfl] at hX
      unfold f_X8_accumulationPoint_b23 at hX
      rw [pz_xb (by decide), if_neg (by decide)] at hX
      refine opK_no (nI 0) (c := 2) (by decide) (by decide) ?_ ?_ hC hA hB
      · show f_L_accumulationPoint 0 (nI o) y 148 (pm I L r) = _
        unfold f_L_accumulationPoint
        rw [xc_ex hX]
        rfl
      · intro J K r' hJ
        obtain ⟨K1, h1, h2, h3, h4⟩ := r9_laysRet (L := K) (r := r') hJ.1 w
        refine ⟨nI 0, up2 J 130 4 (nI 2), K1, ?_, up2_eq, mK_rf, fun a ha => ⟨up2_a (by omega), h3 a (by omega) (by omega)⟩⟩
        unfold f_X9_accumulationPoint f_X9_accumulationPoint_b12 f_X9_accumulationPoint_b52
        simp only [plit, pO_130, pbs, r9_isObject hJ.1 w, e, bIn, Bool.true_eq_false, if_false, h1, r9_within, decide_eq_false e1, if_true, r9_rf (show 2 ≤ 100 from by decide)]
        rfl
end GRP
