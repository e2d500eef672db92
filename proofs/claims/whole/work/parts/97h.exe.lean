/-! commands: execute -/
noncomputable def cW (t : Nat) (T : Nat → Nat) (A : Nat → Nat → Nat) : Nat → Nat → Nat → Nat
  | 0 => A
  | i + 1 => cA t T (cW t T A i) (sQ t T i).1
section EXE
variable {I J : Nat → Nat → Int32} {L K : Nat → Nat → Int64} {r : Nat → Option Nat} {A : Nat → Nat → Nat} {n : Nat} {H : Nat → Nat → Nat → Nat} {t : Nat} {T : Nat → Nat} {P : Nat → Nat → Nat → Nat} {k : Nat → Bool} {B : Nat}
set_option maxRecDepth 8192 in
theorem r9_keep133 {A0 : Nat → Nat → Nat} (h : mS I A n H t T P k) (hx : pr_row (I 133) A0) (hn : n ≤ 5) : ∃ J, f_X9_keeps 130 133 (pm I L r) = some (pm J L r) ∧ mS J A (hS_n n) (hS_H n H A0) t T P k ∧ mO I J L L ∧ (∀ j, j ≠ 3 → J 130 j = I 130 j) ∧ J 131 = I 131 := by
  obtain ⟨h1, h2, h3, h4, h5⟩ := h
  have hf : ∀ a, a ≠ 130 → a ≠ 132 → pv_keep I 133 n a = I a := fun a h1 h2 => pv_keep_ne h2 h1
  refine ⟨pv_keep I 133 n, ?_, ⟨by rw [hf 131 (by decide) (by decide)]; exact h1, ?_, ?_, ⟨by rw [pv_keep_f (by decide)]; exact h4.1, fun j hj => by rw [hf 134 (by decide) (by decide)]; exact h4.2 j hj⟩, mP_fr h5 (fun a _ _ => hf a (by omega) (by omega))⟩, fun a ha => ⟨hf a (by omega) (by omega), rfl⟩, fun j hj => pv_keep_f hj, hf 131 (by decide) (by decide)⟩
  · exact r9_keeps (Or.inr rfl) h2 hn
  · unfold pv_keep hS_n
    by_cases e : n = 5
    · rw [if_pos e, if_pos e]
      unfold pv_kp
      rw [up2_eq]
    · rw [if_neg e, if_neg e]
      unfold pv_kp
      rw [up2_eq]
  · intro i hi
    unfold hS_n at hi
    unfold pv_keep hS_H
    by_cases e : n = 5
    · rw [if_pos e] at hi
      rw [if_pos e, if_pos e]
      by_cases e2 : i = 4
      · rw [if_pos e2]
        subst e2
        have he : (fun j => pv_kp (pv_sh I) 133 4 132 (552 * 4 + j)) = fun j => if j < 552 then I 133 j else pv_sh I 132 (552 * 4 + j) := by
          funext j
          unfold pv_kp
          rw [up2_ne (by decide)]
          by_cases e3 : j < 552
          · rw [if_pos e3, pu_rng_in (by omega) (by omega), pv_sh_ne (by decide) (by decide), show 552 * 4 + j - 552 * 4 = j from by omega]
          · rw [if_neg e3, pu_rng_out (by omega)]
        rw [he]
        exact pr_cong hx (fun j hj => by rw [if_pos hj])
      · rw [if_neg e2]
        refine pr_cong (h3 (i + 1) (by omega)) (fun j hj => ?_)
        unfold pv_kp pv_sh
        rw [up2_ne (by decide), pu_rng_out (by omega), up2_ne (by decide), pu_rng_in (by omega) (by omega)]
        show I 132 (552 * i + j - 0 + 552) = I 132 (552 * (i + 1) + j)
        rw [show 552 * i + j - 0 + 552 = 552 * (i + 1) + j from by omega]
    · rw [if_neg e] at hi
      rw [if_neg e, if_neg e]
      by_cases e2 : i = n
      · rw [if_pos e2]
        subst e2
        refine pr_cong hx (fun j hj => ?_)
        unfold pv_kp
        rw [up2_ne (by decide), pu_rng_in (by omega) (by omega), show 552 * i + j - 552 * i = j from by omega]
      · rw [if_neg e2]
        refine pr_cong (h3 i (by omega)) (fun j hj => ?_)
        unfold pv_kp
        rw [up2_ne (by decide), pu_rng_out (by omega)]
set_option maxRecDepth 8192 in
theorem cW_ok (w : pa_wf A) (hT : ∀ j, j < t → T j < 128) {S : Nat} (hn : A 40 1 + S < 2 ^ 30) (h : ∀ i, i < S → cR t T (cW t T A i) (sQ t T i).1 = 0) : ∀ i, i ≤ S → pa_wf (cW t T A i) ∧ cW t T A i 40 1 ≤ A 40 1 + i := by
  intro i
  induction i with
  | zero => exact fun _ => ⟨w, Nat.le_refl _⟩
  | succ i ih =>
    intro hi
    obtain ⟨h1, h2⟩ := ih (by omega)
    obtain ⟨h3, h4⟩ := cA_ok h1 hT (by omega) (h i (by omega))
    exact ⟨h3, by show cA t T (cW t T A i) (sQ t T i).1 40 1 ≤ _; omega⟩
set_option maxRecDepth 8192 in
theorem cW_ex (t : Nat) (T : Nat → Nat) (A : Nat → Nat → Nat) (M : Nat) : ∃ S, S ≤ M ∧ (∀ i, i < S → cR t T (cW t T A i) (sQ t T i).1 = 0) ∧ (S = M ∨ S < M ∧ cR t T (cW t T A S) (sQ t T S).1 ≠ 0) := by
  cases e : pf1 (fun i => decide (cR t T (cW t T A i) (sQ t T i).1 ≠ 0)) M with
  | zero =>
    have h := pf1_none e
    exact ⟨M, Nat.le_refl M, fun i hi => by simpa using h i hi, Or.inl rfl⟩
  | succ S =>
    obtain ⟨h1, h2, h3⟩ := pf1_some e
    exact ⟨S, by omega, fun i hi => by simpa using h3 i hi, Or.inr ⟨h1, by simpa using h2⟩⟩
/-! the class runs them -/
set_option maxRecDepth 8192 in
theorem x1_run (hC : cS I L r A n H t T P k B) (hA : aS A n H t T P k B) (hB : B + 1000 < 2 ^ 29) {M S : Nat} (hM : M ≤ 50) (h7 : I 100 7 = nI M) (hst : ∀ j, j < M → (sQ t T j).1 < t ∧ cmS t T (sQ t T j).1 (I 101 j) (I 102 j) (I 103 j) (I 104 j)) (hS : S ≤ M) (h0 : ∀ i, i < S → cR t T (cW t T A i) (sQ t T i).1 = 0) (hend : S = M ∨ S < M ∧ cR t T (cW t T A S) (sQ t T S).1 ≠ 0) : ∃ J K, f_X1_run 100 (pm I L r) = some (if S = M then -nI 1 else nI S, pm J K r) ∧ cS J K r (cW t T A S) n H t T P k (B + S) ∧ ∀ a, 28 < a → J a = I a ∧ K a = L a := by
  have hT := hA.2.2.2.2.2.2.1
  have hw := cW_ok hA.2.1 hT (show A 40 1 + S < 2 ^ 30 from by have := hA.2.2.1; omega) h0
  have haS : ∀ i, i ≤ S → aS (cW t T A i) n H t T P k (B + i) := by
    intro i hi
    obtain ⟨a0, a1, a2, a3, a4, a5⟩ := hA
    exact ⟨by omega, (hw i hi).1, by have := (hw i hi).2; omega, a3, fun q hq => ⟨(a4 q hq).1, by have := (a4 q hq).2; omega⟩, a5⟩
  have hloop := pm_for (fun F (a : (Nat → Nat → Int32) × (Nat → Nat → Int64)) i => f_X1_run_b2 F 100 (nI i) (pm a.1 a.2 r)) (fun i a => cS a.1 a.2 r (cW t T A i) n H t T P k (B + i) ∧ ∀ c, 28 < c → a.1 c = I c ∧ a.2 c = L c) (fun s => ∃ J K, s = (if S = M then -nI 1 else nI S, pm J K r) ∧ cS J K r (cW t T A S) n H t T P k (B + S) ∧ ∀ a, 28 < a → J a = I a ∧ K a = L a) S ?_ ?_ hb_FU 0 (I, L) (by omega) (by unfold hb_FU; omega) ⟨hC, fun _ _ => ⟨rfl, rfl⟩⟩
  · obtain ⟨s, s1, J, K, s2, s3⟩ := hloop
    rw [s2] at s1
    exact ⟨J, K, s1, s3⟩
  · rintro F ⟨J, K⟩ i hi ⟨i1, i2⟩
    simp only at i1 i2
    right
    obtain ⟨g1, g2⟩ := hst i (by omega)
    rw [← (i2 101 (by omega)).1, ← (i2 102 (by omega)).1, ← (i2 103 (by omega)).1, ← (i2 104 (by omega)).1] at g2
    have hp := x1_problem (L := K) (r := r) i1.1 (hw i (by omega)).1 (show i < 100 from by omega) hT g1 g2
    obtain ⟨J2, K2, f1, f2, f3⟩ := x1_runOne i1 (haS i (by omega)) (show i < 100 from by omega) g1 g2 (h0 i hi)
    rw [h0 i hi] at hp
    have hj7 : J 100 7 = nI M := by rw [(i2 100 (by omega)).1]; exact h7
    refine ⟨(J2, K2), ?_, f2, fun c hc => ⟨(f3 c hc).1.trans (i2 c hc).1, (f3 c hc).2.trans (i2 c hc).2⟩⟩
    have n1 : (M ≤ i) = False := eq_false (by omega)
    have n2 : (100 ≤ i) = False := eq_false (by omega)
    simp (disch := omega) only [f_X1_run_b2, plit, pI_100_7, pbs, hj7, pn_le, n1, n2, if_false, pO_100, hp, if_true, f1, nI_add]
  · rintro F ⟨J, K⟩ ⟨i1, i2⟩
    simp only at i1 i2
    have hj7 : J 100 7 = nI M := by rw [(i2 100 (by omega)).1]; exact h7
    rcases hend with e | ⟨e1, e2⟩
    · have n1 : (M ≤ S) = True := eq_true (by omega)
      simp (disch := omega) only [f_X1_run_b2, plit, pI_100_7, pbs, hj7, pn_le, n1, if_true]
      exact hw_some.mpr ⟨J, K, by rw [if_pos e], i1, i2⟩
    · obtain ⟨g1, g2⟩ := hst S (by omega)
      rw [← (i2 101 (by omega)).1, ← (i2 102 (by omega)).1, ← (i2 103 (by omega)).1, ← (i2 104 (by omega)).1] at g2
      have hp := x1_problem (L := K) (r := r) i1.1 (hw S (by omega)).1 (show S < 100 from by omega) hT g1 g2
      have n1 : (M ≤ S) = False := eq_false (by omega)
      have n2 : (100 ≤ S) = False := eq_false (by omega)
      have hle : cR t T (cW t T A S) (sQ t T S).1 ≤ 3 := by
        unfold cR
        repeat' split
        · exact pz_of_le _ _ _
        · exact pz_unr_le _ _ _
        · exact pz_arr_le _ _
        · exact pz_ins_le _ _
        · exact pz_set_le _ _ _ _
        · unfold pz_full
          split <;> decide
        · decide
      simp (disch := omega) only [f_X1_run_b2, plit, pI_100_7, pbs, hj7, pn_le, n1, n2, if_false, pO_100, hp, pn_eq, e2]
      exact hw_some.mpr ⟨J, K, by rw [if_neg (by omega)], i1, i2⟩
/-! the reference runs them -/
set_option maxRecDepth 8192 in
theorem r9_run (hN : pr_row (I 131) A) (h133 : pr_row (I 133) A) (w : pa_wf A) (hA0 : A 40 1 + 1000 < 2 ^ 29) (hT : ∀ j, j < t → T j < 128) {M S : Nat} (hM : M ≤ 50) (h26 : I 130 26 = nI M) (hst : ∀ j, j < M → (sQ t T j).1 < t ∧ cmS t T (sQ t T j).1 (I 147 (4 * j)) (I 147 (4 * j + 1)) (I 147 (4 * j + 2)) (I 147 (4 * j + 3))) (hS : S ≤ M) (h0 : ∀ i, i < S → cR t T (cW t T A i) (sQ t T i).1 = 0) (hend : S = M ∨ S < M ∧ cR t T (cW t T A S) (sQ t T S).1 ≠ 0) : ∃ J, (∀ a, a ≠ 131 → J a = I a) ∧ (S = M → pr_row (J 131) (cW t T A M) ∧ f_X9_execute_b49 hb_FU 130 (nI 0) (pm I L r) = (f_X9_keeps 130 133 (pm J L r)).bind fun r4 => (hb_getI r4 130 9 26).bind fun r5 => some (r5, r4)) ∧ (S ≠ M → pr_row (J 131) A ∧ f_X9_execute_b49 hb_FU 130 (nI 0) (pm I L r) = some (-nI 1000 - nI S, pm J L r)) := by
  have hw := cW_ok w hT (show A 40 1 + S < 2 ^ 30 from by omega) h0
  obtain ⟨J, g1, g2⟩ := pm_forE (fun F (b : Nat → Nat → Int32) i => f_X9_execute_b49 F 130 (nI i) (pm b L r)) (fun (J : Nat → Nat → Int32) => if S = M then (f_X9_keeps 130 133 (pm J L r)).bind fun r4 => (hb_getI r4 130 9 26).bind fun r5 => some (r5, r4) else some (-nI 1000 - nI S, pm J L r)) (fun i b => pr_row (b 131) (cW t T A i) ∧ ∀ a, a ≠ 131 → b a = I a) (fun J => (∀ a, a ≠ 131 → J a = I a) ∧ (S = M → pr_row (J 131) (cW t T A M)) ∧ (S ≠ M → pr_row (J 131) A)) S (by
    rintro F b i hi ⟨i1, i2⟩
    obtain ⟨k1, k2⟩ := hst i (by omega)
    rw [← i2 147 (by decide)] at k2
    obtain ⟨J2, d1, d2, d3⟩ := r9_does (L := L) (r := r) i1 (hw i (by omega)).1 (show i < 99 from by omega) hT k1 k2
    rw [decide_eq_true (h0 i hi)] at d1
    have hb26 : b 130 26 = nI M := by rw [i2 130 (by decide)]; exact h26
    have n1 : (M ≤ i) = False := eq_false (by omega)
    refine ⟨J2, ?_, d2 (h0 i hi), fun a ha => (d3 a ha).trans (i2 a ha)⟩
    simp (disch := omega) only [f_X9_execute_b49, plit, pI_130_26, pbs, hb26, pn_le, n1, if_false, pO_130, d1, bIn, Bool.true_eq_false, nI_add]) (by
    rintro F b ⟨i1, i2⟩
    have hb26 : b 130 26 = nI M := by rw [i2 130 (by decide)]; exact h26
    rcases hend with e | ⟨e1, e2⟩
    · have n1 : (M ≤ S) = True := eq_true (by omega)
      refine ⟨b, ?_, i2, fun h => by rw [← h]; exact i1, fun h => absurd e h⟩
      simp (disch := omega) only [f_X9_execute_b49, plit, pI_130_26, pbs, hb26, pn_le, n1, if_true, pR_130_2, pO_130]
      rw [if_pos e]
    · obtain ⟨k1, k2⟩ := hst S (by omega)
      rw [← i2 147 (by decide)] at k2
      obtain ⟨J2, d1, d2, d3⟩ := r9_does (L := L) (r := r) i1 (hw S (by omega)).1 (show S < 99 from by omega) hT k1 k2
      rw [decide_eq_false e2] at d1
      have n1 : (M ≤ S) = False := eq_false (by omega)
      have hl := pm_seq (fun q (a : Nat → Nat → Int32) i => f_X9_execute_b67 q 130 (nI S) (nI i) (pm a L r)) (fun i => pu_rng J2 131 0 i (fun j => J2 133 j)) 552 (out := some (-nI 1000 - nI S, pm (pu_rng J2 131 0 552 (fun j => J2 133 j)) L r)) (by
        intro q i hi
        have hu := pu_rng_up J2 131 0 i (fun j => J2 133 j)
        rw [Nat.zero_add] at hu
        simp (disch := omega) only [f_X9_execute_b67, plit, pn_le, pR_130_0, pR_130_2, pbs, pu_rng_ne, nI_add, pA_133, pS_131]
        rw [if_neg (show ¬ 552 ≤ i from by omega), hu]) (by
        intro q
        simp (disch := omega) only [f_X9_execute_b67, plit, pn_le, Nat.le_refl, if_true]) hb_FU (by decide)
      rw [pu_rng_0] at hl
      refine ⟨pu_rng J2 131 0 552 (fun j => J2 133 j), ?_, fun a ha => ?_, fun h => by omega, fun _ => ?_⟩
      · simp (disch := omega) only [f_X9_execute_b49, plit, pI_130_26, pbs, hb26, pn_le, n1, if_false, pO_130, d1, bIn, if_true]
        rw [if_neg (by omega)]
        exact hl
      · funext j
        rw [pu_rng_ne ha, d3 a ha, i2 a ha]
      · refine pr_cong h133 (fun j hj => ?_)
        rw [pu_rng_in (by omega) (by omega), Nat.sub_zero, d3 133 (by decide), i2 133 (by decide)]) hb_FU 0 I (by omega) (by unfold hb_FU; omega) ⟨hN, fun _ _ => rfl⟩
  obtain ⟨g3, g4, g5⟩ := g2
  refine ⟨J, g3, fun e => ⟨g4 e, ?_⟩, fun e => ⟨g5 e, ?_⟩⟩
  · rw [if_pos e] at g1
    exact g1
  · rw [if_neg e] at g1
    exact g1
end EXE
