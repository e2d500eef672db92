/-! the filter: the reference reads an atom -/
section FIL6
variable {I J : Nat → Nat → Int32} {L K : Nat → Nat → Int64} {r : Nat → Option Nat} {A : Nat → Nat → Nat} {n : Nat} {H : Nat → Nat → Nat → Nat} {t : Nat} {T : Nat → Nat} {P : Nat → Nat → Nat → Nat} {k : Nat → Bool} {B : Nat}
set_option maxRecDepth 8192 in
theorem r9_isValue {a : Nat} {σ : hb_M} (ha : a < 128) : f_X9_isValue (nI a) σ = some (bI ((sL 1).contains a), σ) := by
  unfold f_X9_isValue
  simp (disch := omega) only [plit, pn_eq]
  by_cases x1 : a = 115
  · subst x1; rfl
  rw [if_neg x1]
  by_cases x2 : a = 114
  · subst x2; rfl
  rw [if_neg x2]
  by_cases x3 : a = 100
  · subst x3; rfl
  rw [if_neg x3]
  by_cases x4 : a = 105
  · subst x4; rfl
  rw [if_neg x4]
  by_cases x5 : a = 111
  · subst x5; rfl
  rw [if_neg x5]
  by_cases x6 : a = 97
  · subst x6; rfl
  rw [if_neg x6]
  by_cases x7 : a = 110
  · subst x7; rfl
  rw [if_neg x7]
  by_cases x8 : a = 103
  · subst x8; rfl
  rw [if_neg x8, show (sL 1).contains a = false from by simp [sL, x1, x2, x3, x4, x5, x6, x7, x8]]
  rfl
set_option maxRecDepth 8192 in
theorem r9_udig (h : rT I t T) (ht : t ≤ 100) (hT : ∀ j, j < t → T j < 128) {p : Nat} {x2 x3 : Int32} (hp : p < t) : ∀ d q v F, q + d = p + 6 → v < 10 ^ (4 - d) → d ≤ 4 → d < F → f_X9_unit_b123 F 130 (nI p) x2 x3 (nI q) (nI v) (pm I L r) = f_X9_unit_b167 130 (nI p) x2 x3 (nI (q + tc t T d q)) (nI (tv t T d q v)) (pm I L r) := by
  intro d
  induction d with
  | zero =>
    intro q v F h1 h2 h3 h4
    obtain ⟨F, rfl⟩ : ∃ G, F = G + 1 := ⟨F - 1, by omega⟩
    simp (disch := omega) only [f_X9_unit_b123, plit, nI_add, pn_le]
    rw [if_pos (by omega)]
    rfl
  | succ d ih =>
    intro q v F h1 h2 h3 h4
    obtain ⟨F, rfl⟩ : ∃ G, F = G + 1 := ⟨F - 1, by omega⟩
    have n1 : (p + 6 ≤ q) = False := eq_false (by omega)
    unfold tc tv
    simp (disch := omega) only [f_X9_unit_b123, plit, nI_add, pn_le, n1, if_false, pO_130, r9_letter h ht (show q < 1000 from by omega), pbs, r9_digit h ht hT, bIn]
    cases e : td t T q
    · simp only [if_true, Bool.false_eq_true, if_false, Nat.add_zero]
    · obtain ⟨d1, d2, d3, d4⟩ := td_ex e
      have h10 : 10 ^ (4 - (d + 1)) ≤ 10 ^ 4 := Nat.pow_le_pow_right (by decide) (by omega)
      have hval : nI (10 * v + T q) - nI 48 = nI (v * 10 + (T q - 48)) := by
        rw [nI_dif0 (by omega)]
        congr 1
        omega
      simp (disch := omega) only [Bool.true_eq_false, if_false, if_true, d2, mI_s, pk_mul, nI_add, hval]
      rw [ih (q + 1) (v * 10 + (T q - 48)) F (by omega) (by
        rw [show 4 - d = (4 - (d + 1)) + 1 from by omega, Nat.pow_succ]
        omega) (by omega) (by omega), show q + 1 + tc t T d (q + 1) = q + (tc t T d (q + 1) + 1) from by omega]
set_option maxRecDepth 8192 in
theorem r9_atom (h : rT I t T) (ht : t ≤ 100) (hT : ∀ j, j < t → T j < 128) {p : Nat} (hp : p < t) {ks : List (Nat × Nat × Nat)} {s : List Nat} (hM : rM I ks s) (hl : ks.length < 100) : ∃ J v, f_X9_unit 130 (nI p) (pm I L r) = some (v, pm J L r) ∧ r2 I J ∧ ((fA t T A (p, false)).1.2 = true → v = nI (fA t T A (p, false)).1.1) ∧ ((fA t T A (p, false)).1.2 = false → v = -nI 1 ∧ J 130 22 = nI (fA t T A (p, false)).1.1 ∧ ∃ q : Nat × Nat × Nat, rM J (q :: ks) s ∧ q.1 < 200 ∧ q.2.1 < 200 ∧ q.2.2 < 10000 ∧ (fA t T A (p, false)).2 = fun o => pa_al A o && fa A o q) := by
  have htl : tl t T p = T p + 1 := by unfold tl; rw [if_pos hp]
  have hTp := hT p hp
  have hl1 := tl_lt (t := t) hT (p + 1)
  have hk42 : tk t T p false 42 = decide (T p = 42) := by
    unfold tk
    rw [show tn t T p false = T p + 1 from htl]
    apply decide_eq_decide.mpr
    omega
  have hk64 : tk t T p false 64 = decide (T p = 64) := by
    unfold tk
    rw [show tn t T p false = T p + 1 from htl]
    apply decide_eq_decide.mpr
    omega
  have hto : to t T p false 1 = (sL 1).contains (T p) := by
    unfold to
    rw [show tn t T p false = T p + 1 from htl]
    simp
  unfold f_X9_unit
  simp (disch := omega) only [plit, pO_130, r9_letter h ht (show p < 1000 from by omega), pbs, htl, mI_s, pn_eq, nI_add]
  by_cases x1 : T p = 42
  · have hfA : fA t T A (p, false) = ((p + 1, false), fun o => pa_al A o && fa A o (42, 0, 0)) := by
      unfold fA
      rw [show tk t T (p, false).1 (p, false).2 42 = true from by rw [hk42]; exact decide_eq_true x1]
      rfl
    rw [hfA, if_pos x1, x1]
    obtain ⟨J, g1, g2, g3, g4⟩ := r9_gives (L := L) (r := r) (q := (42, 0, 0)) hM hl (by decide)
    simp only at g1
    rw [g1, pbs, pP_130_22, pbs]
    refine ⟨_, _, rfl, r2_tr g3 (r2_f (by omega)), (fun h => by cases h), fun _ => ⟨rfl, up2_eq, (42, 0, 0), ?_, by decide, by decide, by decide, rfl⟩⟩
    obtain ⟨m1, m2, m3, m4, m5⟩ := g2
    exact ⟨by rw [up2_nj (by decide)]; exact m1, by rw [up2_nj (by decide)]; exact m2, uS_fr m3 (fun i _ => ⟨by rw [up2_ne (by decide)], by rw [up2_ne (by decide)], by rw [up2_ne (by decide)]⟩), wS_fr m4 (fun i _ => by rw [up2_ne (by decide)]), m5⟩
  rw [if_neg x1]
  have k42 : tk t T (p, false).1 (p, false).2 42 = false := by rw [hk42]; exact decide_eq_false x1
  by_cases x2 : T p = 64
  · have hfA : fA t T A (p, false) = (eN t T 1 (p + 1, false), fun o => pa_al A o && fa A o (64, 0, vN t T 1 (p + 1, false))) := by
      unfold fA
      rw [k42, show tk t T (p, false).1 (p, false).2 64 = true from by rw [hk64]; exact decide_eq_true x2]
      rfl
    rw [hfA, if_pos x2]
    simp (disch := omega) only [r9_letter h ht (show p + 1 < 1000 from by omega), pbs, r9_digit h ht hT, bIn]
    cases e1 : td t T (p + 1)
    · have e0 : tc t T 1 (p + 1) = 0 := by simp [tc, e1]
      rw [eN_0 e0]
      exact ⟨I, _, rfl, r2_me I, fun _ => rfl, fun h => by cases h⟩
    · obtain ⟨d1, d2, d3, d4⟩ := td_ex e1
      have e0 : tc t T 1 (p + 1) = 1 := by simp [tc, e1]
      have ev : vN t T 1 (p + 1, false) = T (p + 1) - 48 := by simp [vN, tv, e1]
      have hv1 : nI (T (p + 1)) - nI 48 = nI (T (p + 1) - 48) := nI_dif0 d3
      rw [eN_1 (by omega), e0, ev, x2]
      obtain ⟨J, g1, g2, g3, g4⟩ := r9_gives (L := L) (r := r) (q := (64, 0, T (p + 1) - 48)) hM hl ⟨show 64 ≤ 202 from by decide, show 0 < 200 from by decide, show T (p + 1) - 48 < 10000 from by omega⟩
      simp only at g1
      simp only [Bool.true_eq_false, if_false, pO_130, d2, mI_s, hv1, g1, pbs, pP_130_22]
      refine ⟨_, _, rfl, r2_tr g3 (r2_f (by omega)), (fun h => by cases h), fun _ => ⟨rfl, up2_eq, (64, 0, T (p + 1) - 48), ?_, show 64 < 200 from by decide, show 0 < 200 from by decide, show T (p + 1) - 48 < 10000 from by omega, rfl⟩⟩
      obtain ⟨m1, m2, m3, m4, m5⟩ := g2
      exact ⟨by rw [up2_nj (by decide)]; exact m1, by rw [up2_nj (by decide)]; exact m2, uS_fr m3 (fun i _ => ⟨by rw [up2_ne (by decide)], by rw [up2_ne (by decide)], by rw [up2_ne (by decide)]⟩), wS_fr m4 (fun i _ => by rw [up2_ne (by decide)]), m5⟩
  rw [if_neg x2]
  have k64 : tk t T (p, false).1 (p, false).2 64 = false := by rw [hk64]; exact decide_eq_false x2
  have hfA : fA t T A (p, false) = (eN t T 4 (eO t T 2 (eO t T 1 (p, false))), fun o => pa_al A o && fa A o (vO t T (p, false), vO t T (eO t T 1 (p, false)), vN t T 4 (eO t T 2 (eO t T 1 (p, false))))) := by
    unfold fA
    rw [k42, k64]
    rfl
  rw [hfA, r9_isValue hTp, pbs]
  simp only [bIn]
  cases e1 : (sL 1).contains (T p)
  · rw [e1] at hto
    have e2 : eO t T 1 (p, false) = (p, true) := by unfold eO; simp [hto]
    have e3 : eO t T 2 (p, true) = (p, true) := by unfold eO; simp [to, tn]
    rw [if_pos rfl, e2, e3, eN_t rfl]
    exact ⟨I, _, rfl, r2_me I, fun _ => rfl, fun h => by cases h⟩
  · rw [e1] at hto
    have e2 : eO t T 1 (p, false) = (p + 1, false) := by unfold eO; simp [hto]
    have va : vO t T (p, false) = T p := by unfold vO; rw [show tn t T (p, false).1 (p, false).2 = T p + 1 from htl, Nat.add_sub_cancel]
    rw [if_neg (by decide), e2, va]
    simp (disch := omega) only [pO_130, r9_letter h ht (show p + 1 < 1000 from by omega), pbs, mI_nI]
    -- the sign
    have hbad : ∀ (c : Nat), tl t T (p + 1) ≠ 61 → tl t T (p + 1) ≠ 62 → tl t T (p + 1) ≠ 63 → eO t T 2 (p + 1, false) = (p + 1, true) := by
      intro _ y1 y2 y3
      have : to t T (p + 1) false 2 = false := by
        unfold to
        rw [show tn t T (p + 1) false = tl t T (p + 1) from rfl]
        by_cases z : tl t T (p + 1) = 0
        · simp [z]
        · have w1 : ¬ tl t T (p + 1) - 1 = 60 := by omega
          have w2 : ¬ tl t T (p + 1) - 1 = 61 := by omega
          have w3 : ¬ tl t T (p + 1) - 1 = 62 := by omega
          simp [sL, w1, w2, w3]
      unfold eO
      simp [this]
    have hgood : ∀ (c : Nat), tl t T (p + 1) = c + 1 → (c = 60 ∨ c = 61 ∨ c = 62) → ∃ J v, f_X9_unit_b115 130 (nI p) (nI (T p)) (mI (tl t T (p + 1))) (pm I L r) = some (v, pm J L r) ∧ r2 I J ∧ ((eN t T 4 (eO t T 2 (p + 1, false)), fun o => pa_al A o && fa A o (T p, vO t T (p + 1, false), vN t T 4 (eO t T 2 (p + 1, false)))).1.2 = true → v = nI (eN t T 4 (eO t T 2 (p + 1, false)), fun o => pa_al A o && fa A o (T p, vO t T (p + 1, false), vN t T 4 (eO t T 2 (p + 1, false)))).1.1) ∧ ((eN t T 4 (eO t T 2 (p + 1, false)), fun o => pa_al A o && fa A o (T p, vO t T (p + 1, false), vN t T 4 (eO t T 2 (p + 1, false)))).1.2 = false → v = -nI 1 ∧ J 130 22 = nI (eN t T 4 (eO t T 2 (p + 1, false)), fun o => pa_al A o && fa A o (T p, vO t T (p + 1, false), vN t T 4 (eO t T 2 (p + 1, false)))).1.1 ∧ ∃ q : Nat × Nat × Nat, rM J (q :: ks) s ∧ q.1 < 200 ∧ q.2.1 < 200 ∧ q.2.2 < 10000 ∧ (eN t T 4 (eO t T 2 (p + 1, false)), fun o => pa_al A o && fa A o (T p, vO t T (p + 1, false), vN t T 4 (eO t T 2 (p + 1, false)))).2 = fun o => pa_al A o && fa A o q) := by
      intro c hc hc3
      have e3 : eO t T 2 (p + 1, false) = (p + 2, false) := by
        have : to t T (p + 1) false 2 = true := by
          unfold to
          rw [show tn t T (p + 1) false = tl t T (p + 1) from rfl, hc]
          rcases hc3 with z | z | z <;> subst z <;> rfl
        unfold eO
        simp [this]
      have vb : vO t T (p + 1, false) = c := by unfold vO; rw [show tn t T (p + 1, false).1 (p + 1, false).2 = tl t T (p + 1) from rfl, hc, Nat.add_sub_cancel]
      have hv4 := tv_lt (t := t) hT 4 (p + 2) 0
      have hvn : vN t T 4 (p + 2, false) = tv t T 4 (p + 2) 0 := rfl
      have ht4 := tc_le t T 4 (p + 2)
      rw [e3, vb, hvn, hc, mI_s]
      unfold f_X9_unit_b115
      simp only [plit, nI_add]
      rw [r9_udig h ht hT hp 4 (p + 2) 0 hb_FU (by omega) (by decide) (by omega) (by decide)]
      unfold f_X9_unit_b167
      simp (disch := omega) only [plit, nI_add, pn_eq]
      by_cases z : tc t T 4 (p + 2) = 0
      · rw [eN_0 z, z, if_pos rfl]
        exact ⟨I, _, rfl, r2_me I, fun _ => rfl, fun h => by cases h⟩
      · rw [eN_1 z, if_neg (by omega)]
        obtain ⟨J, g1, g2, g3, g4⟩ := r9_gives (L := L) (r := r) (q := (T p, c, tv t T 4 (p + 2) 0)) hM hl ⟨show T p ≤ 202 from by omega, show c < 200 from by omega, show tv t T 4 (p + 2) 0 < 10000 from by omega⟩
        simp only at g1
        simp only [pO_130, g1, pbs, pP_130_22]
        refine ⟨_, _, rfl, r2_tr g3 (r2_f (by omega)), (fun h => by cases h), fun _ => ⟨rfl, up2_eq, (T p, c, tv t T 4 (p + 2) 0), ?_, show T p < 200 from by omega, show c < 200 from by omega, show tv t T 4 (p + 2) 0 < 10000 from by omega, rfl⟩⟩
        obtain ⟨m1, m2, m3, m4, m5⟩ := g2
        exact ⟨by rw [up2_nj (by decide)]; exact m1, by rw [up2_nj (by decide)]; exact m2, uS_fr m3 (fun i _ => ⟨by rw [up2_ne (by decide)], by rw [up2_ne (by decide)], by rw [up2_ne (by decide)]⟩), wS_fr m4 (fun i _ => by rw [up2_ne (by decide)]), m5⟩
    by_cases y1 : tl t T (p + 1) = 60 + 1
    · rw [if_pos y1]
      exact hgood 60 y1 (by omega)
    rw [if_neg y1]
    by_cases y2 : tl t T (p + 1) = 61 + 1
    · rw [if_pos y2]
      exact hgood 61 y2 (by omega)
    rw [if_neg y2]
    by_cases y3 : tl t T (p + 1) = 62 + 1
    · rw [if_pos y3]
      exact hgood 62 y3 (by omega)
    rw [if_neg y3, hbad 0 y1 y2 y3, eN_t rfl]
    exact ⟨I, _, rfl, r2_me I, fun _ => rfl, fun h => by cases h⟩
end FIL6
