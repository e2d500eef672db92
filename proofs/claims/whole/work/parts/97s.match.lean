/-! the filter: what matches -/
set_option maxRecDepth 8192 in
theorem fA_al {t : Nat} {T : Nat → Nat} {A : Nat → Nat → Nat} {s : Nat × Bool} {o : Nat} (h : (fA t T A s).2 o = true) : pa_al A o = true := by
  unfold fA at h
  split at h
  · simp only [Bool.and_eq_true] at h
    exact h.1
  · split at h
    · simp only [Bool.and_eq_true] at h
      exact h.1
    · simp only [Bool.and_eq_true] at h
      exact h.1
set_option maxRecDepth 8192 in
theorem fU_al {t : Nat} {T : Nat → Nat} {A : Nat → Nat → Nat} {kF : Nat × Bool → (Nat × Bool) × (Nat → Bool)} (hk : ∀ s o, (kF s).2 o = true → pa_al A o = true) {d : Nat} (s : Nat × Bool) (o : Nat) (h : (fU t T A kF d s).2 o = true) : pa_al A o = true := by
  have hR : ∀ s, (fR t T A kF d s).2 o = true → pa_al A o = true := by
    intro s h
    unfold fR at h
    split at h
    · exact hk _ o h
    · exact fA_al h
  unfold fU at h
  simp only at h
  split at h
  · simp only [Bool.and_eq_true] at h
    exact h.1
  · exact hR _ h
set_option maxRecDepth 8192 in
theorem fL_al {t : Nat} {T : Nat → Nat} {A : Nat → Nat → Nat} {op : Nat} {g : Bool → Bool → Bool} (hg : g = and ∨ g = or) {u : Nat × Bool → (Nat × Bool) × (Nat → Bool)} (hu : ∀ s o, (u s).2 o = true → pa_al A o = true) : ∀ n x o, (x.2 o = true → pa_al A o = true) → (fL t T op g u n x).2 o = true → pa_al A o = true := by
  intro n
  induction n with
  | zero => exact fun x o hx h => hx h
  | succ n ih =>
    intro x o hx h
    unfold fL at h
    split at h
    · refine ih _ o (fun h2 => ?_) h
      simp only at h2
      rcases hg with e | e
      · subst e
        simp only [Bool.and_eq_true] at h2
        exact hx h2.1
      · subst e
        simp only [Bool.or_eq_true] at h2
        rcases h2 with h2 | h2
        · exact hx h2
        · exact hu _ o h2
    · exact hx h
set_option maxRecDepth 8192 in
theorem fN_al {t : Nat} {T : Nat → Nat} {A : Nat → Nat → Nat} : ∀ n d s o, (fN t T A n d s).2 o = true → pa_al A o = true := by
  intro n
  induction n with
  | zero => intro d s o h; cases h
  | succ n ih =>
    intro d s o h
    have hU := fU_al (t := t) (T := T) (A := A) (d := d) (fun s o h => ih (d + 1) s o h)
    have hP : ∀ s o, (fP t T A (fN t T A n (d + 1)) d s).2 o = true → pa_al A o = true := fun s o h => fL_al (Or.inl rfl) hU 99 _ o (fun h2 => hU s o h2) h
    exact fL_al (Or.inr rfl) hP 99 _ o (fun h2 => hP s o h2) h
section MAT
variable {I J : Nat → Nat → Int32} {L K : Nat → Nat → Int64} {r : Nat → Option Nat} {A : Nat → Nat → Nat} {n : Nat} {H : Nat → Nat → Nat → Nat} {t : Nat} {T : Nat → Nat} {P : Nat → Nat → Nat → Nat} {k : Nat → Bool} {B : Nat}
set_option maxRecDepth 8192 in
theorem r9_laysM (hI : mS I A n H t T P k) (w : pa_wf A) (ht : t ≤ 100) (hT : ∀ j, j < t → T j < 128) : ((fE t (fN t T A 10 0 (0, false)).1).2 = true → ∃ J, f_X9_laysMatches 130 (pm I L r) = some (-nI 10 - nI (fN t T A 10 0 (0, false)).1.1, pm J L r) ∧ mK I J ∧ mO I J L L) ∧ ((fE t (fN t T A 10 0 (0, false)).1).2 = false → ∃ J K, f_X9_laysMatches 130 (pm I L r) = some (nI 0, pm J K r) ∧ K 130 24 = hb_mk (fun o => pa_al A o && (fN t T A 10 0 (0, false)).2 o) ∧ mR K A ∧ mK I J ∧ mO I J L K) := by
  have hI0 := mS_fr hI (mK_rf (x := nI 0))
  have hle := (fG_Nn (t := t) (T := T) (A := A) 10 0 (0, false)).2 (Nat.zero_le t)
  obtain ⟨i1, i2⟩ := r9_reads (A := A) (L := L) (r := r) (show rT (up2 I 130 4 (nI 0)) t T from hI0.2.2.2.1) ht hT
  obtain ⟨y, hy⟩ : ∃ y, y = fN t T A 10 0 (0, false) := ⟨_, rfl⟩
  rw [← hy] at i1 i2 hle ⊢
  have hmk : ∀ J, r2 (up2 I 130 4 (nI 0)) J → mK (up2 I 130 4 (nI 0)) J := fun J e => ⟨fun a ha => e.1 a (by omega) (by omega), e.2 3 (by decide) (by decide) (by decide), e.2 6 (by decide) (by decide) (by decide)⟩
  refine ⟨fun ef => ?_, fun ef => ?_⟩
  · obtain ⟨J, e1, e2⟩ := i1 ef
    refine ⟨J, ?_, mK_tr mK_rf (hmk J e2), fun a ha => ⟨by rw [e2.1 a (by omega) (by omega), up2_a (by omega)], rfl⟩⟩
    have hne : (nI y.1.1 = -nI 1) = False := by
      have : (mI (y.1.1 + 1) = -nI 1) = (y.1.1 + 1 = 0) := mI_none (by omega)
      rw [mI_s] at this
      rw [this]
      simp
    unfold f_X9_laysMatches
    simp only [plit, pP_130_4, pbs, pO_130, e1, hne, if_false]
  · obtain ⟨J, ks, e1, e2, e3, e4, e5⟩ := i2 ef
    have hJ := mS_fr hI0 (hmk J e2)
    obtain ⟨K1, a1, a2, a3, a4⟩ := r9_laysRet (L := L) (r := r) hJ.1 w
    obtain ⟨J1, b1, b2, b3⟩ := r9_laysFar (L := K1) (r := r) hJ.1 w
    have hrM : ∀ J2 : Nat → Nat → Int32, (∀ c, c ≠ 146 → J2 c = J1 c) → rM J2 ks [] := by
      intro J2 hc
      have hq : ∀ c, c ≠ 146 → c ≠ 139 → J2 c = J c := fun c h1 h2 => by rw [hc c h1, b3 c h2]
      obtain ⟨m1, m2, m3, m4, m5⟩ := e3
      exact ⟨by rw [hq 130 (by decide) (by decide)]; exact m1, by rw [hq 130 (by decide) (by decide)]; exact m2, uS_fr m3 (fun i _ => ⟨by rw [hq 142 (by decide) (by decide)], by rw [hq 143 (by decide) (by decide)], by rw [hq 144 (by decide) (by decide)]⟩), trivial, m5⟩
    have hN1 : pr_row (J1 131) A := by rw [b3 131 (by decide)]; exact hJ.1
    have hz : hb_mk (fun o => decide (o < 0) && (pa_al A o && y.2 o)) = 0 := pb_zero.mpr (fun j _ => by simp)
    have hloop := pm_for (fun F (a : (Nat → Nat → Int32) × (Nat → Nat → Int64)) i => f_X9_laysMatches_b35 F 130 (nI i) (pm a.1 a.2 r)) (fun i a => a.2 130 24 = hb_mk (fun o => decide (o < i) && (pa_al A o && y.2 o)) ∧ (∀ c, c ≠ 146 → a.1 c = J1 c) ∧ (∀ c, c ≠ 130 → a.2 c = K1 c) ∧ ∀ j, j ≠ 24 → a.2 130 j = K1 130 j) (fun s => ∃ J2 K2, s = (nI 0, pm J2 K2 r) ∧ K2 130 24 = hb_mk (fun o => decide (o < 40) && (pa_al A o && y.2 o)) ∧ (∀ c, c ≠ 146 → J2 c = J1 c) ∧ (∀ c, c ≠ 130 → K2 c = K1 c) ∧ ∀ j, j ≠ 24 → K2 130 j = K1 130 j) 40 ?_ ?_ hb_FU 0 (J1, up2 K1 130 24 0) (by omega) (by decide) ⟨by simp only [up2_eq]; exact hz.symm, fun _ _ => rfl, fun c hc => by simp only [up2_a hc], fun j hj => by simp only [up2_nj hj]⟩
    · obtain ⟨s, s1, J2, K2, s2, s3, s4, s5, s6⟩ := hloop
      rw [s2] at s1
      refine ⟨J2, K2, ?_, ?_, ?_, ⟨fun a ha => ?_, ?_, ?_⟩, fun a ha => ⟨?_, ?_⟩⟩
      · unfold f_X9_laysMatches
        simp only [plit, pP_130_4, pbs, pO_130, e1, if_true, a1, b1, pP_130_24]
        exact s1
      · rw [s3]
        exact pb_congr (fun o ho => by simp [ho])
      · exact ⟨by rw [s6 11 (by decide)]; exact a2.1, fun o ho => by rw [s5 138 (by decide)]; exact a2.2 o ho⟩
      · rw [s4 a (by omega), b3 a (by omega), e2.1 a (by omega) (by omega), up2_a (by omega)]
      · rw [s4 130 (by decide), b3 130 (by decide), e2.2 3 (by decide) (by decide) (by decide), up2_nj (by decide)]
      · rw [s4 130 (by decide), b3 130 (by decide), e2.2 6 (by decide) (by decide) (by decide), up2_nj (by decide)]
      · rw [s4 a (by omega), b3 a (by omega), e2.1 a (by omega) (by omega), up2_a (by omega)]
      · rw [s5 a (by omega), a3 a (by omega) (by omega)]
    · rintro F ⟨J2, K2⟩ i hi ⟨p1, p2, p3, p4⟩
      simp only at p1 p2 p3 p4
      right
      have hN2 : pr_row (J2 131) A := by rw [p2 131 (by decide)]; exact hN1
      have n1 : (40 ≤ i) = False := eq_false (by omega)
      have hst := pb_step (fun o => pa_al A o && y.2 o) i
      have hfr : ∀ (J3 : Nat → Nat → Int32) (x : Int64), (∀ c, c ≠ 146 → J3 c = J2 c) → x = hb_mk (fun o => decide (o < i + 1) && (pa_al A o && y.2 o)) → up2 K2 130 24 x 130 24 = hb_mk (fun o => decide (o < i + 1) && (pa_al A o && y.2 o)) ∧ (∀ c, c ≠ 146 → J3 c = J1 c) ∧ (∀ c, c ≠ 130 → up2 K2 130 24 x c = K1 c) ∧ ∀ j, j ≠ 24 → up2 K2 130 24 x 130 j = K1 130 j := fun J3 x h1 h2 => ⟨by rw [up2_eq]; exact h2, fun c hc => (h1 c hc).trans (p2 c hc), fun c hc => by rw [up2_a hc]; exact p3 c hc, fun j hj => by rw [up2_nj hj]; exact p4 j hj⟩
      cases el : pa_al A i
      · simp only [el, Bool.false_and, Bool.false_eq_true, if_false] at hst
        refine ⟨(J2, up2 K2 130 24 (K2 130 24 ||| 0)), ?_, hfr J2 _ (fun _ _ => rfl) (by rw [p1]; exact hst)⟩
        simp (disch := omega) only [f_X9_laysMatches_b35, f_X9_laysMatches_b68, f_X9_laysMatches_b69, plit, pn_le, n1, if_false, pI_130_24, pbs, pO_130, r9_isObj hN2 w hi, el, bIn, if_true, pP_130_24, nI_add]
      · have hai : A i 0 ≠ 0 := by simpa [pa_al] using el
        obtain ⟨J3, q1, q2⟩ := r9_isTrue (L := K2) (r := r) hN2 w ⟨by rw [p4 11 (by decide)]; exact a2.1, fun o ho => by rw [p3 138 (by decide)]; exact a2.2 o ho⟩ (fun o ho => by rw [p2 139 (by decide)]; exact b2 o ho) (hrM J2 p2) e4 hi hai (e5 i el)
        simp only [el, Bool.true_and] at hst
        cases eb : y.2 i
        · rw [eb] at hst q1
          simp only [Bool.false_eq_true, if_false] at hst
          refine ⟨(J3, up2 K2 130 24 (K2 130 24 ||| 0)), ?_, hfr J3 _ q2 (by rw [p1]; exact hst)⟩
          simp (disch := omega) only [f_X9_laysMatches_b35, f_X9_laysMatches_b68, f_X9_laysMatches_b69, plit, pn_le, n1, if_false, pI_130_24, pbs, pO_130, r9_isObj hN2 w hi, el, bIn, Bool.true_eq_false, q1, if_true, pP_130_24, nI_add]
        · rw [eb] at hst q1
          simp only [if_true] at hst
          have h1 := pb_one hi
          refine ⟨(J3, up2 K2 130 24 (K2 130 24 ||| hb_mk (fun j => decide (j = i)))), ?_, hfr J3 _ q2 (by rw [p1]; exact hst)⟩
          simp (disch := omega) only [f_X9_laysMatches_b35, f_X9_laysMatches_b69, plit, pn_le, n1, if_false, pI_130_24, pbs, pO_130, r9_isObj hN2 w hi, el, bIn, Bool.true_eq_false, q1, h1, pP_130_24, nI_add]
    · rintro F ⟨J2, K2⟩ ⟨p1, p2, p3, p4⟩
      simp only at p1 p2 p3 p4
      simp (disch := omega) only [f_X9_laysMatches_b35, plit, pn_le, Nat.le_refl, if_true]
      exact hw_some.mpr ⟨J2, K2, rfl, p1, p2, p3, p4⟩
end MAT
