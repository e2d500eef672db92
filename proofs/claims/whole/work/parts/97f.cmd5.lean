/-! commands: what one does -/
def cR (t : Nat) (T : Nat → Nat) (A : Nat → Nat → Nat) (p : Nat) : Nat := if T p = 43 then pz_root A (nI (cX t T p)) (nI (cY t T p)) else if T p = 45 then pz_unr A (nI (cX t T p)) (nI (cY t T p)) else if T p = 97 then pz_arr A (nI (cX t T p)) else if T p = 110 then pz_ins A (nI (cX t T p)) else if T p = 115 then pz_set A (nI (cX t T p)) (nI (cY t T p)) (mI (cZ t T p)) else if T p = 119 then pz_full A else 0
noncomputable def cA (t : Nat) (T : Nat → Nat) (A : Nat → Nat → Nat) (p : Nat) : Nat → Nat → Nat := if T p = 43 then up2 A (cX t T p) 4 (A (cX t T p) 4 ||| 2 ^ cY t T p) else if T p = 45 then up2 A (cX t T p) 4 (A (cX t T p) 4 &&& (7 - 2 ^ cY t T p)) else if T p = 97 then pa_new A (po_lo A) 10 (cX t T p) else if T p = 110 then pa_new A (po_lo A) (cX t T p) (pa_fo A (cX t T p)) else if T p = 115 then up2 A (cX t T p) (5 + cY t T p) (cZ t T p) else if T p = 119 then pa_new A (po_lo A) 11 1 else pa_kp A (px_R A)
section CMD5
variable {I J : Nat → Nat → Int32} {L K : Nat → Nat → Int64} {r : Nat → Option Nat} {A : Nat → Nat → Nat} {n : Nat} {H : Nat → Nat → Nat → Nat} {t : Nat} {T : Nat → Nat} {P : Nat → Nat → Nat → Nat} {k : Nat → Bool} {B : Nat}
set_option maxRecDepth 8192 in
theorem r9_laysCommands (h : rT I t T) (ht : t ≤ 100) (hT : ∀ j, j < t → T j < 128) {M : Nat} (hM : M ≤ 50) (hs : (sQ t T M).2 = true ∨ t ≤ (sQ t T M).1) (hi : ∀ i, i < M → (sQ t T i).2 = false ∧ (sQ t T i).1 < t ∧ 2 * i ≤ (sQ t T i).1) : ∃ J v, f_X9_laysCommands 130 (pm I L r) = some (v, pm J L r) ∧ rF I J ∧ ((sQ t T M).2 = true → v = nI (sQ t T M).1) ∧ ((sQ t T M).2 = false → v = -nI 1 ∧ J 130 26 = nI M ∧ ∀ j, j < M → cmS t T (sQ t T j).1 (J 147 (4 * j)) (J 147 (4 * j + 1)) (J 147 (4 * j + 2)) (J 147 (4 * j + 3))) := by
  have hloop := pm_for (fun F (b : Nat → Nat → Int32) i => f_X9_laysCommands_b7 F 130 (nI (sQ t T i).1) (pm b L r)) (fun i b => (sQ t T i).2 = false ∧ rF I b ∧ b 130 26 = nI i ∧ ∀ j, j < i → cmS t T (sQ t T j).1 (b 147 (4 * j)) (b 147 (4 * j + 1)) (b 147 (4 * j + 2)) (b 147 (4 * j + 3))) (fun s => ∃ J v, s = (v, pm J L r) ∧ rF I J ∧ ((sQ t T M).2 = true → v = nI (sQ t T M).1) ∧ ((sQ t T M).2 = false → v = -nI 1 ∧ J 130 26 = nI M ∧ ∀ j, j < M → cmS t T (sQ t T j).1 (J 147 (4 * j)) (J 147 (4 * j + 1)) (J 147 (4 * j + 2)) (J 147 (4 * j + 3)))) M ?_ ?_ hb_FU 0 (up2 I 130 26 (nI 0)) (by omega) (by unfold hb_FU; omega) ⟨rfl, rF_130 (by omega), up2_eq, fun j hj => by omega⟩
  · obtain ⟨s, s1, J, v, s2, s3⟩ := hloop
    rw [s2] at s1
    refine ⟨J, v, ?_, s3⟩
    unfold f_X9_laysCommands
    simp only [plit, pP_130_26, pbs]
    exact s1
  · rintro F b i hiM ⟨f0, f1, f2, f3⟩
    obtain ⟨g1, g2, g3⟩ := hi i hiM
    have hb := rT_fr h f1
    obtain ⟨J, v, k1, k2, k3, k4, k5⟩ := r9_command (L := L) (r := r) hb ht hT (c := i) (by omega) g2 f2
    have hn : (t ≤ (sQ t T i).1) = False := eq_false (by omega)
    have hpl := cc_le t T (sQ t T i).1
    simp (disch := omega) only [f_X9_laysCommands_b7, plit, pI_130_6, pbs, hb.1, pn_le, hn, if_false, pO_130, k1]
    cases e : (sQ t T (i + 1)).2
    · right
      obtain ⟨k6, k7, k8, k9⟩ := k5 e
      refine ⟨J, ?_, rfl, rF_tr f1 k2, k8, fun j hj => ?_⟩
      · rw [k6, if_pos rfl, pI_130_22, pbs, k7]
        rfl
      · by_cases e2 : j = i
        · rw [e2]
          exact k9
        · rw [k3 _ (by omega), k3 _ (by omega), k3 _ (by omega), k3 _ (by omega)]
          exact f3 j (by omega)
    · left
      have hiM1 : i + 1 = M := by
        by_cases e2 : i + 1 < M
        · have := (hi (i + 1) e2).1
          rw [e] at this
          cases this
        · omega
      have k6 := k4 e
      have hne : (nI (cc t T (sQ t T i).1).1 = -nI 1) = False := by
        have : (mI ((cc t T (sQ t T i).1).1 + 1) = -nI 1) = ((cc t T (sQ t T i).1).1 + 1 = 0) := mI_none (by omega)
        rw [mI_s] at this
        rw [this]
        simp
      rw [k6, if_neg (by rw [hne]; exact fun h => h)]
      refine hw_some.mpr ⟨J, _, rfl, rF_tr f1 k2, fun _ => ?_, fun h => ?_⟩
      · rw [← hiM1]
        rfl
      · rw [← hiM1, e] at h
        cases h
  · rintro F b ⟨f0, f1, f2, f3⟩
    have hb := rT_fr h f1
    have h2 : t ≤ (sQ t T M).1 := by
      rcases hs with h | h
      · rw [f0] at h; cases h
      · exact h
    have hbd : (sQ t T M).1 < 1000 := by
      cases M with
      | zero => exact (by decide : 0 < 1000)
      | succ m =>
        have := cc_le t T (sQ t T m).1
        have h2 := (hi m (by omega)).2.1
        show (cc t T (sQ t T m).1).1 < 1000
        omega
    simp (disch := omega) only [f_X9_laysCommands_b7, plit, pI_130_6, pbs, hb.1, pn_le, h2, if_true]
    exact hw_some.mpr ⟨b, _, rfl, f1, (fun h => by rw [f0] at h; cases h), fun _ => ⟨rfl, f2, f3⟩⟩
set_option maxRecDepth 8192 in
theorem cX_lt (hT : ∀ j, j < t → T j < 128) (p : Nat) : cX t T p < 100 ∧ cY t T p < 100 ∧ cZ t T p ≤ 100 := by
  have hv : ∀ m s, m ≤ 2 → vN t T m s < 100 := by
    intro m s hm
    unfold vN
    split
    · decide
    · have h1 := tv_lt (t := t) hT m s.1 0
      have h2 : 10 ^ m ≤ 10 ^ 2 := Nat.pow_le_pow_right (by decide) hm
      omega
  refine ⟨?_, hv 2 _ (by decide), ?_⟩
  · unfold cX
    split
    · exact hv 1 _ (by decide)
    · exact hv 2 _ (by decide)
  · unfold cZ
    have := hv 2 (c3 t T p) (by decide)
    split <;> omega
/-! what a command that is not refused may rest on -/
set_option maxRecDepth 8192 in
theorem cA_ok (w : pa_wf A) (hT : ∀ j, j < t → T j < 128) (hn : A 40 1 + 1 < 2 ^ 30) {p : Nat} (h0 : cR t T A p = 0) : pa_wf (cA t T A p) ∧ cA t T A p 40 1 ≤ A 40 1 + 1 := by
  obtain ⟨b1, b2, b3⟩ := cX_lt hT p
  have hful : pz_full A = 0 → fb_ct (pa_al A) 40 < 40 := fun h => by
    unfold pz_full at h
    split at h
    · assumption
    · cases h
  unfold cA
  unfold cR at h0
  by_cases x1 : T p = 43
  · rw [if_pos x1] at h0 ⊢
    obtain ⟨o, q, ho, ha, hq, hx, hy⟩ := pz_root_ex h0
    rw [nI_eq (by omega) (by omega)] at hx hy
    have h7 : A o 4 ≤ 7 := (w.2.2.2.1 o ho ha).2.2.1
    rw [hx, hy]
    refine ⟨pa_wf_root w ho ha (pk_or h7 hq).2, ?_⟩
    rw [up2_ne (by omega)]
    omega
  rw [if_neg x1] at h0 ⊢
  by_cases x2 : T p = 45
  · rw [if_pos x2] at h0 ⊢
    obtain ⟨o, q, ho, ha, hq, hx, hy⟩ := pz_unr_ex h0
    rw [nI_eq (by omega) (by omega)] at hx hy
    have h7 : A o 4 ≤ 7 := (w.2.2.2.1 o ho ha).2.2.1
    rw [hx, hy]
    refine ⟨pa_wf_root w ho ha (pk_an h7 hq).2, ?_⟩
    rw [up2_ne (by omega)]
    omega
  rw [if_neg x2] at h0 ⊢
  by_cases x3 : T p = 97
  · rw [if_pos x3] at h0 ⊢
    unfold pz_arr at h0
    cases e : pn_at 9 (nI (cX t T p)) with
    | none => rw [e] at h0; cases h0
    | some m =>
      rw [e] at h0
      obtain ⟨hm, hx⟩ := pn_at_some (by omega) e
      rw [nI_eq (by omega) (by omega)] at hx
      obtain ⟨o1, o2, o3⟩ := po_lo_ex (hful h0)
      exact ⟨pa_wf_new w o1 hn (Or.inr (Or.inl ⟨rfl, by omega⟩)), by rw [pa_new_nx o1]; omega⟩
  rw [if_neg x3] at h0 ⊢
  by_cases x4 : T p = 110
  · rw [if_pos x4] at h0 ⊢
    unfold pz_ins at h0
    rw [pa_isC_nI w (by omega)] at h0
    by_cases e : cX t T p < A 40 0
    · rw [decide_eq_true e, if_pos rfl] at h0
      obtain ⟨o1, o2, o3⟩ := po_lo_ex (hful h0)
      exact ⟨pa_wf_new w o1 hn (Or.inl ⟨e, rfl⟩), by rw [pa_new_nx o1]; omega⟩
    · rw [decide_eq_false e] at h0
      cases h0
  rw [if_neg x4] at h0 ⊢
  by_cases x5 : T p = 115
  · rw [if_pos x5] at h0 ⊢
    unfold pz_set at h0
    cases e : pa_isS A (nI (cX t T p)) (nI (cY t T p)) && (decide (mI (cZ t T p) = -nI 1) || pa_isO A (mI (cZ t T p)))
    · rw [e] at h0
      cases h0
    · simp only [Bool.and_eq_true, Bool.or_eq_true, decide_eq_true_eq] at e
      obtain ⟨o, s, ho, ha, hs, hx, hy⟩ := pa_isS_ex e.1 w
      have h8 := pa_sl8 w ho ha
      rw [nI_eq (by omega) (by omega)] at hx hy
      rw [hx, hy]
      have hz : cZ t T p ≤ 40 ∧ (cZ t T p ≠ 0 → A (cZ t T p - 1) 0 ≠ 0) := by
        rcases e.2 with h | h
        · rw [mI_none (by omega)] at h
          rw [h]
          exact ⟨by omega, fun h => absurd rfl h⟩
        · obtain ⟨q, hq, hqa, hz⟩ := pa_isO_ex h
          rw [mI_nI (by omega) (by omega)] at hz
          rw [hz]
          exact ⟨by omega, fun _ => hqa⟩
      refine ⟨pa_wf_set w ho ha hs hz.1 hz.2, ?_⟩
      rw [up2_ne (by omega)]
      omega
  rw [if_neg x5] at h0 ⊢
  by_cases x6 : T p = 119
  · rw [if_pos x6] at h0 ⊢
    obtain ⟨o1, o2, o3⟩ := po_lo_ex (hful h0)
    exact ⟨pa_wf_new w o1 hn (Or.inr (Or.inr ⟨rfl, rfl⟩)), by rw [pa_new_nx o1]; omega⟩
  rw [if_neg x6]
  exact ⟨pa_wf_col w, by rw [pa_kp_nx]; omega⟩
end CMD5
