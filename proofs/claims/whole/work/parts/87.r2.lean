/-! the reference: what an object refers to, what is reached -/
def pq2 (x y : Int32) (a s : Nat) : Bool := decide (nI a = x) && decide (nI s = y)
def pq1 (x : Int32) (a : Nat) : Bool := decide (nI a = x)
set_option maxRecDepth 8192 in
theorem pq_strict {p h : Nat → Bool} {n : Nat} (hs : ∀ j, j < n → h j = true → p j = true) {j : Nat} (hj : j < n) (h1 : p j = true) (h2 : h j = false) : fb_ct h n < fb_ct p n := by
  have e : fb_ct p n = fb_ct (fun k => (p k && !h k) || h k) n := fb_ct_cong (fun k hk => by
    cases ep : p k <;> cases eh : h k <;> simp
    have := hs k hk eh
    rw [ep] at this
    cases this)
  rw [e, fb_ct_or (fun k _ h => by simp only [Bool.and_eq_true] at h; rw [h.2] at h; exact absurd h.1.2 (by decide))]
  have : 0 < fb_ct (fun k => p k && !h k) n := fb_ct_pos.mpr ⟨j, hj, by simp [h1, h2]⟩
  omega
section R92
variable {I : Nat → Nat → Int32} {L : Nat → Nat → Int64} {r : Nat → Option Nat} {A : Nat → Nat → Nat}
set_option maxRecDepth 8192 in
theorem r9_refersTo (hN : pr_row (I 131) A) (w : pa_wf A) {o : Nat} (ho : o < 40) (ha : A o 0 ≠ 0) (x y : Int32) : f_X9_refersTo 130 (nI o) x y (pm I L r) = some (hb_mk (pa_e A (pq2 x y) o), pm I L r) := by
  have hg := pa_gr w ho ha
  have h8 := pa_sl8 w ho ha
  have h1 := (hN.2.2.2 o ho).1 1 (by decide)
  have h2 := (hN.2.2.2 o ho).1 2 (by decide)
  obtain ⟨-, -, -, hsl⟩ := w.2.2.2.1 o ho ha
  unfold f_X9_refersTo
  simp (disch := omega) only [pbs, pO_130, pR_130_0, pA_131, pS_131, plit, nI_add, pk_mul, pn_le, pn_lt, if_true, if_false, reduceIte, r9_at, h1, pn_eq]
  by_cases e : A o 1 = 11
  · rw [if_pos e, ← pb_0]
    exact pb_some (fun j _ => by simp [pa_e, e])
  · rw [if_neg e]
    have h := pm_loop (fun n a i => f_X9_refersTo_b22 n 130 (nI o) x y a (nI i) (pm I L r)) (fun i a => a ||| (if (decide (A o (5 + i) ≠ 0) && !pq2 x y o i) = true then hb_mk (fun t => decide (A o (5 + i) = t + 1)) else 0)) (A o 2) (out := fun a => some (a, pm I L r)) (by
      intro n a i hi
      have hv := (hN.2.2.2 o ho).2 i (by omega)
      have hb := (hsl i (by omega)).2.1
      simp (disch := omega) only [f_X9_refersTo_b22, f_X9_refersTo_b73, f_X9_refersTo_b77, f_X9_refersTo_b81, pbs, pO_130, pR_130_0, pA_131, pS_131, plit, nI_add, pk_mul, pn_le, pn_lt, if_true, if_false, reduceIte, r9_at, h2, hv, mI_none]
      rw [if_neg (by omega)]
      by_cases e0 : A o (5 + i) = 0
      · simp [e0]
      · obtain ⟨t, ht⟩ : ∃ t, A o (5 + i) = t + 1 := ⟨A o (5 + i) - 1, by omega⟩
        rw [if_neg e0]
        have hp : (decide (A o (5 + i) ≠ 0) && !pq2 x y o i) = !pq2 x y o i := by simp [e0]
        rw [hp, ht, mI_s, pb_one (by omega)]
        unfold pq2
        by_cases c1 : nI o = x
        · by_cases c2 : nI i = y
          · simp only [c1, c2, if_true, decide_true, Bool.and_self, Bool.not_true, Bool.false_eq_true, if_false]
          · simp only [c1, c2, if_true, if_false, decide_true, decide_false, Bool.and_false, Bool.not_false]
            rw [pb_congr (q := fun j => decide (t + 1 = j + 1)) (fun j _ => decide_eq_decide.mpr (by omega))]
        · simp only [c1, if_false, decide_false, Bool.false_and, Bool.not_false, if_true]
          rw [pb_congr (q := fun j => decide (t + 1 = j + 1)) (fun j _ => decide_eq_decide.mpr (by omega))]) (by
      intro n a
      simp (disch := omega) only [f_X9_refersTo_b22, pbs, pO_130, pR_130_0, pA_131, pS_131, plit, nI_add, pk_mul, pn_le, pn_lt, if_true, if_false, reduceIte, r9_at, h2]
      rw [if_pos (Nat.le_refl _)]) 0 hb_FU (Nat.lt_of_le_of_lt h8 (by decide))
    refine h.trans ?_
    rw [pm_fold_gather0]
    apply pb_some
    intro t ht
    unfold pa_e
    simp only [pa_al, ha, ne_eq, not_false_eq_true, decide_true, e, Bool.and_self, Bool.true_and]
    have hiff : pq_any (fun i => (decide (¬A o (5 + i) = 0) && !pq2 x y o i) && decide (A o (5 + i) = t + 1)) (A o 2) = true ↔ pq_any (fun s => decide (A o (5 + s) = t + 1) && !pq2 x y o s) 8 = true := by
      rw [pq_any_iff, pq_any_iff]
      constructor
      · rintro ⟨i, hi, h⟩
        simp only [Bool.and_eq_true] at h
        exact ⟨i, by omega, by simp only [Bool.and_eq_true]; exact ⟨h.2, h.1.2⟩⟩
      · rintro ⟨i, hi, h⟩
        simp only [Bool.and_eq_true, decide_eq_true_eq] at h
        have : i < A o 2 := by
          rcases Nat.lt_or_ge i (A o 2) with h3 | h3
          · exact h3
          · have := (hsl i hi).1 h3
            omega
        exact ⟨i, this, by simp only [Bool.and_eq_true, decide_eq_true_eq]; exact ⟨⟨by omega, h.2⟩, h.1⟩⟩
    exact Bool.eq_iff_iff.mpr hiff
set_option maxRecDepth 8192 in
theorem r9_reached (hN : pr_row (I 131) A) (w : pa_wf A) (W : Nat → Bool) (x y z : Int32) : f_X9_reached 130 (hb_mk W) x y z (pm I L r) = some (hb_mk (pg_b A W (pq2 x y) (pq1 z)), pm I L r) := by
  unfold f_X9_reached
  have h := pm_loop (fun n a i => f_X9_reached_b6 n 130 (hb_mk W) x y z a (nI i) (pm I L r)) (fun i a => a ||| (if (pa_r A i && !pq1 z i) = true then hb_mk (fun t => decide (t = i)) else 0)) 40 (out := fun a => f_X9_reached_b76 hb_FU 130 (hb_mk W) x y (a &&& (hb_mk W ^^^ (-1 : Int64))) (0 : Int64) (pm I L r)) (by
    intro n a i hi
    have h4 := (hN.2.2.2 i hi).1 4 (by decide)
    simp (disch := omega) only [f_X9_reached_b6, f_X9_reached_b53, f_X9_reached_b54, pbs, pO_130, pR_130_0, pA_131, pS_131, plit, nI_add, pk_mul, pn_le, pn_lt, if_true, if_false, reduceIte, r9_isObj hN w hi, bIn]
    rw [if_neg (by omega)]
    by_cases ha : A i 0 = 0
    · simp [pa_r, pa_al, ha]
    · have h7 : A i 4 ≤ 7 := (w.2.2.2.1 i hi ha).2.2.1
      have ha2 : pa_al A i = true := by simp [pa_al, ha]
      simp (disch := omega) only [ha2, Bool.true_eq_false, if_false, r9_at, pbs, pO_130, pR_130_0, pA_131, pS_131, plit, nI_add, pk_mul, pn_le, pn_lt, if_true, if_false, reduceIte, h4, pn_eq, pa_r, Bool.true_and]
      by_cases e : A i 4 = 0
      · simp [e]
      · by_cases e2 : nI i = z
        · simp [e, e2, pq1]
        · rw [if_neg e, if_neg e2, pb_one hi]
          simp [e, e2, pq1]) (by
    intro n a
    rw [f_X9_reached_b6, if_pos (by decide)]) 0 hb_FU (by decide)
  refine h.trans ?_
  rw [pm_fold_gather0, pb_anot, ← pb_0]
  apply hw_the
  have hS : ∀ s, s < 40 → (fun t => (pq_any (fun i => (pa_r A i && !pq1 z i) && decide (t = i)) 40) && !W t) s = pg_S A W (pq1 z) s := by
    intro s hs
    unfold pg_S
    have : pq_any (fun i => (pa_r A i && !pq1 z i) && decide (s = i)) 40 = (pa_r A s && !pq1 z s) := by
      apply Bool.eq_iff_iff.mpr
      rw [pq_any_iff]
      constructor
      · rintro ⟨i, hi, h⟩
        simp only [Bool.and_eq_true, decide_eq_true_eq] at h
        rw [h.2]
        simp only [Bool.and_eq_true]
        exact h.1
      · intro h
        exact ⟨s, hs, by simp only [Bool.and_eq_true, decide_eq_true_eq] at h ⊢; exact ⟨h, trivial⟩⟩
    simp only [this, hs, decide_true, Bool.true_and]
  rw [pb_congr hS]
  refine pm_while (fun n (a : (Nat → Bool) × (Nat → Bool)) => f_X9_reached_b76 n 130 (hb_mk W) x y (hb_mk a.1) (hb_mk a.2) (pm I L r)) (fun a => (∀ o, o < 40 → a.2 o = true → a.1 o = true) ∧ (∀ s, pg_S A W (pq1 z) s = true → a.1 s = true) ∧ (∀ o t, o < 40 → a.2 o = true → pg_E A W (pq2 x y) o t = true → a.1 t = true) ∧ (∀ o, o < 40 → a.1 o = true → pr_R (pg_E A W (pq2 x y)) (pg_S A W (pq1 z)) o)) (fun a => 40 - fb_ct a.2 40) (fun b => b = (hb_mk (pg_b A W (pq2 x y) (pq1 z)), pm I L r)) ?_ hb_FU (pg_S A W (pq1 z), fun _ => false) ⟨by simp, fun s h => h, by simp, fun o _ h => pr_start h⟩ (Nat.lt_of_le_of_lt (Nat.sub_le 40 _) (by decide))
  rintro n ⟨p, h⟩ ⟨i1, i2, i3, i4⟩
  simp only at i1 i2 i3 i4 ⊢
  rw [f_X9_reached_b76]
  by_cases e : hb_mk h = hb_mk p
  · left
    rw [if_pos (show lg_cmp (hb_mk h) (hb_mk p) = (0 : Int32) from pb_cmp0.mpr e)]
    refine hw_some.mpr ?_
    congr 1
    apply pb_congr
    intro o ho
    apply Bool.eq_iff_iff.mpr
    unfold pg_b
    rw [pr_b_iff]
    constructor
    · exact i4 o ho
    · intro hr
      refine (hr (fun o => o < 40 ∧ p o = true) (fun s hs => ⟨pg_S_lt s hs, i2 s hs⟩) ?_).2
      rintro a b ⟨ha, hpa⟩ he
      exact ⟨pg_E_lt w a b he, i3 a b ha (by rw [pb_inj e ha]; exact hpa) he⟩
  · right
    refine ⟨(fun t => p t || pq_any (fun o => (p o && !h o) && (pa_e A (pq2 x y) o t && !W t)) 40, p), ?_, ⟨?_, ?_, ?_, ?_⟩, ?_⟩
    · rw [if_neg (show ¬ lg_cmp (hb_mk h) (hb_mk p) = (0 : Int32) from fun h => e (pb_cmp0.mp h)), pb_anot]
      have hl := pm_loop (fun m a i => f_X9_reached_b102 (f_X9_reached_b76 n) m 130 (hb_mk W) x y a (hb_mk p) (hb_mk (fun j => p j && !h j)) (nI i) (pm I L r)) (fun i a => a ||| (if (p i && !h i) = true then hb_mk (fun t => pa_e A (pq2 x y) i t && !W t) else 0)) 40 (out := fun a => f_X9_reached_b76 n 130 (hb_mk W) x y a (hb_mk p) (pm I L r)) (by
        intro m a i hi
        simp (disch := omega) only [f_X9_reached_b102, f_X9_reached_b142, pbs, pO_130, pR_130_0, pA_131, pS_131, plit, nI_add, pk_mul, pn_le, pn_lt, if_true, if_false, reduceIte, pb_cS hi, pb_cmp0]
        rw [if_neg (by omega)]
        by_cases c : (p i && !h i) = true
        · have hpi : p i = true := by simp only [Bool.and_eq_true] at c; exact c.1
          have hal := (pg_b_al w (W := W) (q := pq2 x y) (u := pq1 z) (pr_b_iff.mpr (i4 i hi hpi))).2
          rw [if_pos (pb_l1.mpr c), r9_refersTo hN w hi hal]
          simp only [pbs, pb_anot, c, if_true]
        · rw [if_neg (fun h => c (pb_l1.mp h))]
          simp only [c]
          rfl) (by
        intro m a
        rw [f_X9_reached_b102, if_pos (by decide)]) (hb_mk p) hb_FU (by decide)
      refine hl.trans ?_
      rw [pm_fold_gather]
    · intro o _ ho
      have ho : p o = true := ho
      simp only [ho, Bool.true_or]
    · intro s hs
      simp only [i2 s hs, Bool.true_or]
    · intro o t ho hpo he
      by_cases hh : h o = true
      · simp only [i3 o t ho hh he, Bool.true_or]
      · have : pq_any (fun o => (p o && !h o) && (pa_e A (pq2 x y) o t && !W t)) 40 = true := (pq_any_iff _ _).mpr ⟨o, ho, by
          unfold pg_E at he
          simp only [Bool.and_eq_true, decide_eq_true_eq] at he ⊢
          exact ⟨⟨hpo, by simpa using hh⟩, he.1.2, he.2⟩⟩
        simp only [this, Bool.or_true]
    · intro o ho h9
      rcases Bool.or_eq_true _ _ ▸ h9 with h9 | h9
      · exact i4 o ho h9
      · obtain ⟨a, ha, h9⟩ := (pq_any_iff _ _).mp h9
        simp only [Bool.and_eq_true] at h9
        exact pr_step (i4 a ha h9.1.1) (by unfold pg_E; simp only [Bool.and_eq_true, decide_eq_true_eq]; exact ⟨⟨ha, h9.2.1⟩, h9.2.2⟩)
    · have hex : ∃ j, j < 40 ∧ p j = true ∧ h j = false := by
        apply Classical.byContradiction
        intro hno
        apply e
        apply pb_congr
        intro j hj
        cases hh : h j with
        | true => exact (i1 j hj hh).symm
        | false =>
          cases hp : p j with
          | false => rfl
          | true => exact absurd ⟨j, hj, hp, hh⟩ hno
      obtain ⟨j, hj, h1, h2⟩ := hex
      have := pq_strict i1 hj h1 h2
      have := fb_ct_le p 40
      show 40 - fb_ct p 40 < 40 - fb_ct h 40
      omega
end R92
