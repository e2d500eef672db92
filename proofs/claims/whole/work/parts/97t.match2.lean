/-! the filter: the three calls -/
section MAT2
variable {I J : Nat → Nat → Int32} {L K : Nat → Nat → Int64} {r : Nat → Option Nat} {A : Nat → Nat → Nat} {n : Nat} {H : Nat → Nat → Nat → Nat} {t : Nat} {T : Nat → Nat} {P : Nat → Nat → Nat → Nat} {k : Nat → Bool} {B : Nat}
set_option maxRecDepth 8192 in
theorem fw_neg {p : Nat} (hp : p ≤ 100) : (nI 0 ≤ -nI 10 - nI p) = False := by
  have key : ∀ p, p < 101 → (nI 0 ≤ -nI 10 - nI p) = False := by
    intro p hp
    have : ∀ p, p < 101 → ¬ (nI 0 ≤ -nI 10 - nI p) := by decide +kernel
    exact eq_false (this p hp)
  exact key p (by omega)
set_option maxRecDepth 8192 in
theorem fN_set (t : Nat) (T : Nat → Nat) (A : Nat → Nat → Nat) (n d : Nat) (s : Nat × Bool) : hb_mk (fun o => pa_al A o && (fN t T A n d s).2 o) = hb_mk (fN t T A n d s).2 := by
  refine pb_congr (fun o _ => ?_)
  cases e : (fN t T A n d s).2 o
  · rw [Bool.and_false]
  · rw [fN_al n d s o e, Bool.and_true]
set_option maxRecDepth 8192 in
theorem od_matches (hC : cS I L r A n H t T P k B) (hA : aS A n H t T P k B) (hB : B + 1000 < 2 ^ 29) : opD (fun σ => f_X8_matches 0 σ) (fun σ => f_X9_matches 130 σ) I L r A n H t T P k B := by
  obtain ⟨aB, w, a2, a3, a4, ht, hT, a7⟩ := id hA
  obtain ⟨J, K, x, x1, x2, x3, x4, x5, x6, x7⟩ := x3_apply hC hA
  have hle := (fG_Nn (t := t) (T := T) (A := A) 10 0 (0, false)).2 (Nat.zero_le t)
  have hset := fN_set t T A 10 0 (0, false)
  obtain ⟨y, hy⟩ : ∃ y, y = fN t T A 10 0 (0, false) := ⟨_, rfl⟩
  have hlm : ∀ (J : Nat → Nat → Int32) (K : Nat → Nat → Int64) (r' : Nat → Option Nat), mS J A n H t T P k → _ := fun J K r' hJ => r9_laysM (L := K) (r := r') hJ w ht hT
  rw [← hy] at x5 x6 x7 hle hset
  cases ef : (fE t y.1).2
  · rw [ef] at x6
    have hx := x7 ef
    subst hx
    refine opD_ask (nI (fb_ct y.2 40)) ⟨J, K, ?_, x2, fun a ha _ => x4 a ha⟩ ?_ hA hB
    · unfold f_X8_matches
      simp only [plit, pR_0_4, pR_0_3, pbs, pO_99, x1, pI_97_3, x6, bIn, if_true, pc_bitCount]
    · intro J K r' hJ
      obtain ⟨J2, K2, e1, e2, e3, e4, e5⟩ := (hlm J K r' hJ).2 (by rw [← hy]; exact ef)
      rw [← hy, hset] at e2
      have n0 : (nI 0 ≤ nI 0) = True := by decide
      refine ⟨J2, K2, ?_, e4, e5⟩
      unfold f_X9_matches
      simp only [plit, pO_130, e1, pbs, n0, if_true, pI_130_24, e2, r9_bits]
  · rw [ef] at x6
    refine opD_ask (-nI 10 - nI y.1.1) ⟨J, K, ?_, x2, fun a ha _ => x4 a ha⟩ ?_ hA hB
    · unfold f_X8_matches
      simp only [plit, pR_0_4, pR_0_3, pbs, pO_99, x1, pI_97_3, x6, bIn, Bool.true_eq_false, if_false, pI_97_2, x5]
    · intro J K r' hJ
      obtain ⟨J2, e1, e2, e3⟩ := (hlm J K r' hJ).1 (by rw [← hy]; exact ef)
      rw [← hy] at e1
      refine ⟨J2, K, ?_, e2, e3⟩
      unfold f_X9_matches
      simp only [plit, pO_130, e1, pbs, fw_neg (show y.1.1 ≤ 100 from by omega), if_false]
set_option maxRecDepth 8192 in
theorem r9_nth {S : Nat → Bool} (h : L 130 24 = hb_mk S) (x : Int32) : f_X9_matchAt_b16 hb_FU 130 x (nI 0) (nI 0) (pm I L r) = some (mI (pb_nth S x), pm I L r) := by
  have hloop := pm_for (fun F (_ : Unit) i => f_X9_matchAt_b16 F 130 x (nI (fb_ct S i)) (nI i) (pm I L r)) (fun i _ => ∀ j, j < i → (S j && decide (nI (fb_ct S j) = x)) = false) (fun s => s = (mI (pb_nth S x), pm I L r)) 40 ?_ ?_ hb_FU 0 () (by omega) (by decide) (fun j hj => by omega)
  · obtain ⟨s, s1, s2⟩ := hloop
    rw [s2] at s1
    exact s1
  · intro F _ i hi hP
    have n1 : (40 ≤ i) = False := eq_false (by omega)
    have hb : ((L 130 24) >>> ((nI i).toInt64 &&& 63)) &&& 1 = lN (pb_b (S i)) := by rw [h]; exact pb_cS hi
    cases e : S i
    · right
      refine ⟨(), ?_, fun j hj => ?_⟩
      · rw [e] at hb
        have hc : (lg_cmp (((L 130 24) >>> ((nI i).toInt64 &&& 63)) &&& 1) 1 = 0) = False := by rw [hb]; decide
        simp (disch := omega) only [f_X9_matchAt_b16, f_X9_matchAt_b48, plit, pn_le, n1, if_false, pI_130_24, pbs]
        rw [if_neg (by
          intro h9
          rw [← hc]
          exact h9), nI_add, fb_ct_succ, e]
        rfl
      · by_cases e2 : j = i
        · rw [e2, e, Bool.false_and]
        · exact hP j (by omega)
    · rw [e] at hb
      have hc : (lg_cmp (((L 130 24) >>> ((nI i).toInt64 &&& 63)) &&& 1) 1 = 0) = True := by rw [hb]; decide
      have hun : f_X9_matchAt_b16 (F + 1) 130 x (nI (fb_ct S i)) (nI i) (pm I L r) = if nI (fb_ct S i) = x then some (nI i, pm I L r) else f_X9_matchAt_b16 F 130 x (nI (fb_ct S i + 1)) (nI (i + 1)) (pm I L r) := by
        simp (disch := omega) only [f_X9_matchAt_b16, f_X9_matchAt_b48, plit, pn_le, n1, if_false, pI_130_24, pbs, nI_add]
        exact if_pos (by
          have := hc
          simp only [plit] at this
          rw [this]
          trivial)
      by_cases e2 : nI (fb_ct S i) = x
      · left
        simp only [hun, if_pos e2]
        refine hw_some.mpr ?_
        have : pb_nth S x = i + 1 := pf1_eq hi (by simp [e, e2]) (fun j hj => hP j hj)
        rw [this, mI_s]
      · right
        refine ⟨(), ?_, fun j hj => ?_⟩
        · simp only [hun, if_neg e2]
          rw [fb_ct_succ, e, if_pos rfl]
        · by_cases e3 : j = i
          · rw [e3, e, Bool.true_and]
            exact decide_eq_false e2
          · exact hP j (by omega)
  · intro F _ hP
    simp (disch := omega) only [f_X9_matchAt_b16, plit, pn_le, Nat.le_refl, if_true]
    refine hw_some.mpr ?_
    have : pb_nth S x = 0 := by
      cases e : pb_nth S x with
      | zero => rfl
      | succ i =>
        obtain ⟨h1, h2, -⟩ := pf1_some e
        rw [hP i h1] at h2
        cases h2
    rw [this, mI_0]
set_option maxRecDepth 8192 in
theorem od_matchAt (v : Int32) (hC : cS I L r A n H t T P k B) (hA : aS A n H t T P k B) (hB : B + 1000 < 2 ^ 29) : opD (fun σ => f_X8_matchAt 0 v σ) (fun σ => f_X9_matchAt 130 v σ) I L r A n H t T P k B := by
  obtain ⟨aB, w, a2, a3, a4, ht, hT, a7⟩ := id hA
  obtain ⟨J, K, x, x1, x2, x3, x4, x5, x6, x7⟩ := x3_apply hC hA
  have hle := (fG_Nn (t := t) (T := T) (A := A) 10 0 (0, false)).2 (Nat.zero_le t)
  have hset := fN_set t T A 10 0 (0, false)
  obtain ⟨y, hy⟩ : ∃ y, y = fN t T A 10 0 (0, false) := ⟨_, rfl⟩
  have hlm : ∀ (J : Nat → Nat → Int32) (K : Nat → Nat → Int64) (r' : Nat → Option Nat), mS J A n H t T P k → _ := fun J K r' hJ => r9_laysM (L := K) (r := r') hJ w ht hT
  rw [← hy] at x5 x6 x7 hle hset
  cases ef : (fE t y.1).2
  · rw [ef] at x6
    have hx := x7 ef
    subst hx
    refine opD_ask (mI (pb_nth y.2 v)) ⟨J, K, ?_, x2, fun a ha _ => x4 a ha⟩ ?_ hA hB
    · unfold f_X8_matchAt
      simp only [plit, pR_0_4, pR_0_3, pbs, pO_99, x1, pI_97_3, x6, bIn, if_true, x8_memberAt]
    · intro J K r' hJ
      obtain ⟨J2, K2, e1, e2, e3, e4, e5⟩ := (hlm J K r' hJ).2 (by rw [← hy]; exact ef)
      rw [← hy, hset] at e2
      have n0 : (nI 0 ≤ nI 0) = True := by decide
      refine ⟨J2, K2, ?_, e4, e5⟩
      unfold f_X9_matchAt
      simp only [plit, pO_130, e1, pbs, n0, if_true]
      exact r9_nth e2 v
  · rw [ef] at x6
    refine opD_ask (-nI 10 - nI y.1.1) ⟨J, K, ?_, x2, fun a ha _ => x4 a ha⟩ ?_ hA hB
    · unfold f_X8_matchAt
      simp only [plit, pR_0_4, pR_0_3, pbs, pO_99, x1, pI_97_3, x6, bIn, Bool.true_eq_false, if_false, pI_97_2, x5]
    · intro J K r' hJ
      obtain ⟨J2, e1, e2, e3⟩ := (hlm J K r' hJ).1 (by rw [← hy]; exact ef)
      rw [← hy] at e1
      refine ⟨J2, K, ?_, e2, e3⟩
      unfold f_X9_matchAt
      simp only [plit, pO_130, e1, pbs, fw_neg (show y.1.1 ≤ 100 from by omega), if_false]
set_option maxRecDepth 8192 in
theorem od_matchSize (b : Bool) (hC : cS I L r A n H t T P k B) (hA : aS A n H t T P k B) (hB : B + 1000 < 2 ^ 29) : opD (fun σ => f_X8_matchSize 0 (bI b) σ) (fun σ => f_X9_matchSize 130 (bI b) σ) I L r A n H t T P k B := by
  obtain ⟨aB, w, a2, a3, a4, ht, hT, a7⟩ := id hA
  obtain ⟨J, K, x, x1, x2, x3, x4, x5, x6, x7⟩ := x3_apply hC hA
  have hle := (fG_Nn (t := t) (T := T) (A := A) 10 0 (0, false)).2 (Nat.zero_le t)
  have hset := fN_set t T A 10 0 (0, false)
  have hal := fN_al (t := t) (T := T) (A := A) 10 0 (0, false)
  obtain ⟨y, hy⟩ : ∃ y, y = fN t T A 10 0 (0, false) := ⟨_, rfl⟩
  have hlm : ∀ (J : Nat → Nat → Int32) (K : Nat → Nat → Int64) (r' : Nat → Option Nat), mS J A n H t T P k → _ := fun J K r' hJ => r9_laysM (L := K) (r := r') hJ w ht hT
  rw [← hy] at x5 x6 x7 hle hset hal
  have hal' : ∀ o, o < 40 → y.2 o = true → A o 0 ≠ 0 := fun o _ h => by
    have := hal o h
    simpa [pa_al] using this
  cases ef : (fE t y.1).2
  · rw [ef] at x6
    have hx := x7 ef
    subst hx
    have n0 : (nI 0 ≤ nI 0) = True := by decide
    cases b
    · refine opD_ask (nI (fb_sm (fun o => if y.2 o then pa_so A o else 0) 40)) ⟨J, K, ?_, x2, fun a ha _ => x4 a ha⟩ ?_ hA hB
      · unfold f_X8_matchSize
        simp only [plit, pR_0_4, pR_0_3, pR_0_0, pbs, pO_99, x1, pI_97_3, x6, bIn, if_true, pO_h hp_1, x4_sizeOfAll hp_1 x2.1 y.2 hal']
      · intro J K r' hJ
        obtain ⟨J2, K2, e1, e2, e3, e4, e5⟩ := (hlm J K r' hJ).2 (by rw [← hy]; exact ef)
        rw [← hy, hset] at e2
        refine ⟨J2, K2, ?_, e4, e5⟩
        unfold f_X9_matchSize f_X9_matchSize_b43
        simp only [plit, pO_130, e1, pbs, n0, if_true, bIn, pI_130_24, e2, r9_sizes (mS_fr hJ e4).1 w y.2 hal', lN_i]
    · obtain ⟨J3, K3, f1, f2⟩ := x0_lostSet (r := r) x2.1 w x3 y.2
      refine opD_ask (nI (px_ls A y.2 pg_00 pg_0)) ⟨J3, K3, ?_, cS_fr x2 (fun a _ h => f2 a h), fun a ha _ => ⟨(f2 a (by omega)).1.trans (x4 a ha).1, (f2 a (by omega)).2.trans (x4 a ha).2⟩⟩ ?_ hA hB
      · unfold f_X8_matchSize
        simp only [plit, pR_0_4, pR_0_3, pR_0_1, pbs, pO_99, x1, pI_97_3, x6, bIn, if_true, Bool.true_eq_false, if_false, pO_12, f1]
      · intro J K r' hJ
        obtain ⟨J2, K2, e1, e2, e3, e4, e5⟩ := (hlm J K r' hJ).2 (by rw [← hy]; exact ef)
        rw [← hy, hset] at e2
        have hN := (mS_fr hJ e4).1
        have hre := r9_reached (L := K2) (r := r') hN w y.2 (-nI 1) (-nI 1) (-nI 1)
        rw [show pg_b A y.2 (pq2 (-nI 1) (-nI 1)) (pq1 (-nI 1)) = pg_b A y.2 pg_00 pg_0 from by funext o; unfold pg_b; rw [pg_E_none2, pg_S_none]] at hre
        refine ⟨J2, K2, ?_, e4, e5⟩
        unfold f_X9_matchSize f_X9_matchSize_b43
        simp only [plit, pO_130, e1, pbs, n0, if_true, bIn, Bool.true_eq_false, if_false, pI_130_11, pI_130_24, e2, e3.1, hre, pb_anot, r9_lost hN w, lN_i]
  · rw [ef] at x6
    refine opD_ask (-nI 10 - nI y.1.1) ⟨J, K, ?_, x2, fun a ha _ => x4 a ha⟩ ?_ hA hB
    · unfold f_X8_matchSize
      simp only [plit, pR_0_4, pR_0_3, pbs, pO_99, x1, pI_97_3, x6, bIn, Bool.true_eq_false, if_false, pI_97_2, x5]
    · intro J K r' hJ
      obtain ⟨J2, e1, e2, e3⟩ := (hlm J K r' hJ).1 (by rw [← hy]; exact ef)
      rw [← hy] at e1
      refine ⟨J2, K, ?_, e2, e3⟩
      unfold f_X9_matchSize
      simp only [plit, pO_130, e1, pbs, fw_neg (show y.1.1 ≤ 100 from by omega), if_false]
end MAT2
