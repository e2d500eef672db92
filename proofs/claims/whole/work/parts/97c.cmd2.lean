/-! commands: all are read, by the class -/
def sQ (t : Nat) (T : Nat → Nat) : Nat → Nat × Bool
  | 0 => (0, false)
  | i + 1 => cc t T (sQ t T i).1
set_option maxRecDepth 8192 in
theorem eX_ok {t : Nat} {T : Nat → Nat} {c : Nat} {s : Nat × Bool} (h : (eX t T c s).2 = false) : s.2 = false ∧ (eX t T c s).1 = s.1 + 1 ∧ s.1 < t ∧ tl t T s.1 = c + 1 := by
  unfold eX at h ⊢
  simp only [Bool.or_eq_false_iff] at h
  have hk : tk t T s.1 s.2 c = true := by simpa using h.2
  refine ⟨h.1, by simp [hk], ?_, ?_⟩
  · rw [h.1] at hk
    unfold tk tn tl at hk
    by_cases e : s.1 < t
    · exact e
    · simp [e] at hk
  · rw [h.1] at hk
    unfold tk tn at hk
    simpa using hk
set_option maxRecDepth 8192 in
theorem eN_ok {t : Nat} {T : Nat → Nat} {m : Nat} {s : Nat × Bool} (h : (eN t T m s).2 = false) : s.2 = false ∧ s.1 + 1 ≤ (eN t T m s).1 ∧ (eN t T m s).1 = s.1 + tc t T m s.1 := by
  unfold eN at h ⊢
  cases e : s.2
  · rw [e] at h
    simp only [Bool.false_eq_true, if_false, decide_eq_false_iff_not] at h ⊢
    exact ⟨trivial, by omega, trivial⟩
  · rw [e] at h
    simp [e] at h
set_option maxRecDepth 8192 in
theorem eZ_ok {t : Nat} {T : Nat → Nat} {s : Nat × Bool} (h : (eZ t T s).2 = false) : s.2 = false ∧ s.1 + 1 ≤ (eZ t T s).1 := by
  unfold eZ at h ⊢
  cases e : tk t T s.1 s.2 45
  · rw [e] at h
    simp only [Bool.false_eq_true, if_false] at h ⊢
    exact ⟨(eN_ok h).1, (eN_ok h).2.1⟩
  · rw [e] at h
    simp only [if_true] at h ⊢
    exact ⟨h, Nat.le_refl _⟩
set_option maxRecDepth 8192 in
theorem cc_ok {t : Nat} {T : Nat → Nat} {p : Nat} (h : (cc t T p).2 = false) : p + 2 ≤ (cc t T p).1 ∧ (cc t T p).1 ≤ t ∧ to t T p false 3 = true := by
  unfold cc at h ⊢
  cases e : to t T p false 3
  · rw [e] at h
    cases h
  · rw [e] at h
    simp only [if_true] at h ⊢
    refine ⟨?_, ?_, trivial⟩
    · split
      · next e1 =>
        rw [if_pos e1] at h
        obtain ⟨h1, h2, h3, -⟩ := eX_ok h
        obtain ⟨h4, h5, -⟩ := eN_ok h1
        obtain ⟨h6, h7, -⟩ := eX_ok (s := eN t T 2 (p + 1, false)) h4
        obtain ⟨h8, h9, -⟩ := eN_ok h6
        rw [h2]
        unfold c2 at h5
        simp only at h9
        unfold c2
        omega
      · next e1 =>
        rw [if_neg e1] at h
        split
        · next e2 =>
          rw [if_pos e2] at h
          obtain ⟨h1, h2, h3, -⟩ := eX_ok h
          obtain ⟨h4, h5, -⟩ := eN_ok h1
          rw [h2]
          simp only at h5
          omega
        · next e2 =>
          rw [if_neg e2] at h
          split
          · next e3 =>
            rw [if_pos e3] at h
            obtain ⟨h1, h2, h3, -⟩ := eX_ok h
            obtain ⟨h4, h5⟩ := eZ_ok h1
            obtain ⟨h6, h7, -⟩ := eX_ok (s := eN t T 2 (c2 t T p)) h4
            obtain ⟨h8, h9, -⟩ := eN_ok h6
            obtain ⟨i6, i7, -⟩ := eX_ok (s := eN t T 2 (p + 1, false)) h8
            obtain ⟨i8, i9, -⟩ := eN_ok i6
            rw [h2]
            simp only at i9
            unfold c3 at h5 ⊢
            unfold c2 at *
            omega
          · next e3 =>
            rw [if_neg e3] at h
            obtain ⟨h1, h2, h3, -⟩ := eX_ok h
            rw [h2]
            simp only
            omega
    · split
      · next e1 =>
        rw [if_pos e1] at h
        obtain ⟨h1, h2, h3, -⟩ := eX_ok h
        omega
      · next e1 =>
        rw [if_neg e1] at h
        split
        · next e2 =>
          rw [if_pos e2] at h
          obtain ⟨h1, h2, h3, -⟩ := eX_ok h
          omega
        · next e2 =>
          rw [if_neg e2] at h
          split
          · next e3 =>
            rw [if_pos e3] at h
            obtain ⟨h1, h2, h3, -⟩ := eX_ok h
            omega
          · next e3 =>
            rw [if_neg e3] at h
            obtain ⟨h1, h2, h3, -⟩ := eX_ok h
            omega
set_option maxRecDepth 8192 in
theorem cc_le (t : Nat) (T : Nat → Nat) (p : Nat) : (cc t T p).1 ≤ p + 11 := by
  have b1 := eN_le t T 2 (p + 1, false)
  have b2 := eX_le t T 44 (eN t T 2 (p + 1, false))
  have b3 := eN_le t T 2 (c2 t T p)
  have b4 := eX_le t T 44 (eN t T 2 (c2 t T p))
  have b5 := eZ_le t T (c3 t T p)
  have b6 := eN_le t T 1 (p + 1, false)
  have x1 := eX_le t T 59 (eN t T 2 (c2 t T p))
  have x2 := eX_le t T 59 (eN t T 1 (p + 1, false))
  have x3 := eX_le t T 59 (eZ t T (c3 t T p))
  have x4 := eX_le t T 59 (p + 1, false)
  simp only at b1 b6 x4
  unfold c3 at b5 x3
  unfold cc
  unfold c2 at *
  unfold c3
  unfold c2
  split
  · split
    · omega
    · split
      · omega
      · split
        · omega
        · omega
  · show p ≤ _
    omega
/-! after so many commands the reading ends -/
set_option maxRecDepth 8192 in
theorem sQ_ex (t : Nat) (T : Nat → Nat) (ht : t ≤ 100) : ∃ M, M ≤ 50 ∧ ((sQ t T M).2 = true ∨ t ≤ (sQ t T M).1) ∧ ∀ i, i < M → (sQ t T i).2 = false ∧ (sQ t T i).1 < t ∧ 2 * i ≤ (sQ t T i).1 := by
  have key : ∀ i, (∀ j, j ≤ i → (sQ t T j).2 = false) → 2 * i ≤ (sQ t T i).1 := by
    intro i
    induction i with
    | zero => exact fun _ => Nat.zero_le _
    | succ i ih =>
      intro h
      have h1 := ih (fun j hj => h j (by omega))
      have h2 := (cc_ok (h (i + 1) (Nat.le_refl _))).1
      show 2 * (i + 1) ≤ (cc t T (sQ t T i).1).1
      omega
  cases e : pf1 (fun i => (sQ t T i).2 || decide (t ≤ (sQ t T i).1)) 51 with
  | zero =>
    exfalso
    have h1 := pf1_none e
    have h2 := key 50 (fun j hj => by
      have := h1 j (by omega)
      simp only [Bool.or_eq_false_iff] at this
      exact this.1)
    have h3 := h1 50 (by omega)
    simp only [Bool.or_eq_false_iff, decide_eq_false_iff_not] at h3
    omega
  | succ M =>
    obtain ⟨h1, h2, h3⟩ := pf1_some e
    refine ⟨M, by omega, by simpa using h2, fun i hi => ?_⟩
    have h4 := h3 i hi
    simp only [Bool.or_eq_false_iff, decide_eq_false_iff_not] at h4
    refine ⟨h4.1, by omega, key i (fun j hj => ?_)⟩
    have := h3 j (by omega)
    simp only [Bool.or_eq_false_iff] at this
    exact this.1
section CMD2
variable {I J : Nat → Nat → Int32} {L K : Nat → Nat → Int64} {r : Nat → Option Nat} {A : Nat → Nat → Nat} {n : Nat} {H : Nat → Nat → Nat → Nat} {t : Nat} {T : Nat → Nat} {P : Nat → Nat → Nat → Nat} {k : Nat → Bool} {B : Nat}
set_option maxRecDepth 8192 in
theorem ps_v3 (s : Nat × Bool) : ps I s 97 3 = bI s.2 := pt_v3 I s.1 s.2
set_option maxRecDepth 8192 in
theorem ps_v2 (s : Nat × Bool) : ps I s 97 2 = nI s.1 := pt_v2 I s.1 s.2
set_option maxRecDepth 8192 in
theorem x1_read (h : cT I t T) (ht : t ≤ 100) (hT : ∀ j, j < t → T j < 128) {M : Nat} (hM : M ≤ 50) (hs : (sQ t T M).2 = true ∨ t ≤ (sQ t T M).1) (hi : ∀ i, i < M → (sQ t T i).2 = false ∧ (sQ t T i).1 < t ∧ 2 * i ≤ (sQ t T i).1) : ∃ J, f_X1_read 100 (pm I L r) = some (pm (ps J (sQ t T M)) L r) ∧ (∀ a, (a < 100 ∨ 104 < a) → J a = I a) ∧ J 100 7 = nI M ∧ ∀ j, j < M → (sQ t T (j + 1)).2 = false → cmS t T (sQ t T j).1 (J 101 j) (J 102 j) (J 103 j) (J 104 j) := by
  have hloop := pm_for (fun F (b : Nat → Nat → Int32) i => f_X1_read_b12 F 100 (pm (ps b (sQ t T i)) L r)) (fun i b => (∀ a, (a < 100 ∨ 104 < a) → b a = I a) ∧ b 100 7 = nI i ∧ ∀ j, j < i → (sQ t T (j + 1)).2 = false → cmS t T (sQ t T j).1 (b 101 j) (b 102 j) (b 103 j) (b 104 j)) (fun s => ∃ J, s = pm (ps J (sQ t T M)) L r ∧ (∀ a, (a < 100 ∨ 104 < a) → J a = I a) ∧ J 100 7 = nI M ∧ ∀ j, j < M → (sQ t T (j + 1)).2 = false → cmS t T (sQ t T j).1 (J 101 j) (J 102 j) (J 103 j) (J 104 j)) M ?_ ?_ hb_FU 0 (up2 I 100 7 (nI 0)) (by omega) (by unfold hb_FU; omega) ⟨fun a ha => up2_a (by omega), up2_eq, fun j hj => by omega⟩
  · obtain ⟨s, s1, J, s2, s3⟩ := hloop
    rw [s2] at s1
    refine ⟨J, ?_, s3⟩
    unfold f_X1_read
    simp only [plit, pR_100_2, pbs, pO_97, x7_begin, pP_100_7]
    rw [show pt I 0 false = ps I (0, false) from rfl, ps_up (by decide)]
    exact s1
  · rintro F b i hiM ⟨f1, f2, f3⟩
    right
    obtain ⟨g1, g2, g3⟩ := hi i hiM
    have hsq : sQ t T i = ((sQ t T i).1, false) := by rw [← g1]
    have hcb : cT b t T := cT_fr h (fun a ha => f1 a (by omega))
    obtain ⟨J, k1, k2, k3, k4⟩ := x1_one (L := L) (r := r) hcb ht hT (i := i) (p := (sQ t T i).1) (by omega) f2 (by omega)
    rw [← hsq] at k1
    have e1 := x7_atEnd (L := L) (r := r) hcb ht (p := (sQ t T i).1) (f := (sQ t T i).2) (by omega)
    rw [show pt b (sQ t T i).1 (sQ t T i).2 = ps b (sQ t T i) from rfl, decide_eq_false (by omega)] at e1
    have hn : (100 ≤ i) = False := eq_false (by omega)
    refine ⟨up2 J 100 7 (nI (i + 1)), ?_, fun a ha => by rw [up2_a (by omega), k2 a (by omega)]; exact f1 a ha, up2_eq, fun j hj hq => ?_⟩
    · simp (disch := omega) only [f_X1_read_b12, plit, pI_100_7, pbs, ps_a, f2, pn_le, hn, if_false, pR_100_2, pI_97_3, ps_v3, g1, bIn, if_true, pO_97, e1, pO_100, k1, k2, nI_add, pP_100_7, ps_up]
      rfl
    · rw [up2_row _ _ _ (by decide), up2_row _ _ _ (by decide), up2_row _ _ _ (by decide), up2_row _ _ _ (by decide)]
      by_cases e : j = i
      · rw [e] at hq ⊢
        exact k4 hq
      · rw [k3 _ j e, k3 _ j e, k3 _ j e, k3 _ j e]
        exact f3 j (by omega) hq
  · rintro F b ⟨f1, f2, f3⟩
    have hn : (100 ≤ M) = False := eq_false (by omega)
    have hcb : cT b t T := cT_fr h (fun a ha => f1 a (by omega))
    have hb : (sQ t T M).1 < 1000 := by
      cases M with
      | zero => exact (by decide : 0 < 1000)
      | succ m =>
        have := cc_le t T (sQ t T m).1
        have h2 := (hi m (by omega)).2.1
        show (cc t T (sQ t T m).1).1 < 1000
        omega
    have e1 := x7_atEnd (L := L) (r := r) hcb ht (p := (sQ t T M).1) (f := (sQ t T M).2) hb
    rw [show pt b (sQ t T M).1 (sQ t T M).2 = ps b (sQ t T M) from rfl] at e1
    simp (disch := omega) only [f_X1_read_b12, plit, pI_100_7, pbs, ps_a, f2, pn_le, hn, if_false, pR_100_2, pI_97_3, ps_v3, bIn, pO_97, e1]
    cases e : (sQ t T M).2
    · have h2 : t ≤ (sQ t T M).1 := by
        rcases hs with h | h
        · rw [e] at h; cases h
        · exact h
      rw [decide_eq_true h2]
      exact hw_some.mpr ⟨b, rfl, f1, f2, f3⟩
    · exact hw_some.mpr ⟨b, rfl, f1, f2, f3⟩
end CMD2
