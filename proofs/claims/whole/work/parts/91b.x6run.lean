/-! the class's references, and a whole search over them -/
def pa_rf (A : Nat → Nat → Nat) (j : Nat) : Nat := if A (j / 8) 0 ≠ 0 ∧ A (j / 8) 1 ≠ 11 then A (j / 8) (5 + j % 8) else 0
def pu_wr (I : Nat → Nat → Int32) (A : Nat → Nat → Nat) (m : Nat) : Nat → Nat → Int32 := fun b j => if b = 21 ∧ j < m then mI (pa_rf A j) else I b j
set_option maxRecDepth 8192 in
theorem pu_wr_up (I : Nat → Nat → Int32) (A : Nat → Nat → Nat) (m : Nat) : up2 (pu_wr I A m) 21 m (mI (pa_rf A m)) = pu_wr I A (m + 1) := by
  funext b j
  unfold up2 pu_wr
  by_cases e1 : b = 21
  · by_cases e2 : j = m
    · rw [if_pos ⟨e1, e2⟩, if_pos ⟨e1, by omega⟩, e2]
    · rw [if_neg (by omega)]
      by_cases e3 : j < m
      · rw [if_pos ⟨e1, e3⟩, if_pos ⟨e1, by omega⟩]
      · rw [if_neg (by omega), if_neg (by omega)]
  · rw [if_neg (by omega), if_neg (by omega), if_neg (by omega)]
set_option maxRecDepth 8192 in
theorem pu_wr_ne {I : Nat → Nat → Int32} {A : Nat → Nat → Nat} {m b j : Nat} (h : b ≠ 21) : pu_wr I A m b j = I b j := by simp [pu_wr, h]
set_option maxRecDepth 8192 in
theorem pu_wr_in {I : Nat → Nat → Int32} {A : Nat → Nat → Nat} {m j : Nat} (h : j < m) : pu_wr I A m 21 j = mI (pa_rf A j) := by simp [pu_wr, h]
section X6R
variable {I : Nat → Nat → Int32} {L : Nat → Nat → Int64} {r : Nat → Option Nat} {A : Nat → Nat → Nat} {q h : Nat}
set_option maxRecDepth 8192 in
theorem x4_writeRefs (hh : pm_hp h) (h1 : h = 1) (hR : ph_rep I h A) (w : pa_wf A) : f_X4_writeReferences h 21 (pm I L r) = some (pm (pu_wr I A 320) L r) := by
  unfold f_X4_writeReferences
  have hin : ∀ (k2 : Nat → Nat → Int32 → hb_M → Option hb_M) (o c : Nat), o < 40 → c ≤ 8 → (∀ s, s < 8 → (if s < c then I (h + 10) (o * 8 + s) else -nI 1) = mI (pa_rf A (o * 8 + s))) → f_X4_writeReferences_b43 k2 hb_FU h 21 (nI o) (nI c) (nI 0) (pm (pu_wr I A (o * 8)) L r) = k2 h 21 (nI (o + 1)) (pm (pu_wr I A ((o + 1) * 8)) L r) := by
    intro k2 o c ho hc hv
    have hl := pm_seq (fun n a i => f_X4_writeReferences_b43 k2 n h 21 (nI o) (nI c) (nI i) (pm a L r)) (fun i => pu_wr I A (o * 8 + i)) 8 (out := k2 h 21 (nI (o + 1)) (pm (pu_wr I A ((o + 1) * 8)) L r)) (by
      intro n i hi
      have hv := hv i hi
      simp (disch := omega) only [f_X4_writeReferences_b43, f_X4_writeReferences_b79, pbs, pO_h hh, pR_h_1 hh, pA_h_1 hh, pS_h_1 hh, pR_h_2 hh, pA_h_2 hh, pS_h_2 hh, pR_h_3 hh, pA_h_3 hh, pS_h_3 hh, pR_h_4 hh, pA_h_4 hh, pS_h_4 hh, pR_h_5 hh, pA_h_5 hh, pS_h_5 hh, pR_h_6 hh, pA_h_6 hh, pS_h_6 hh, pR_h_7 hh, pA_h_7 hh, pS_h_7 hh, pR_h_8 hh, pA_h_8 hh, pS_h_8 hh, pR_h_9 hh, pA_h_9 hh, pS_h_9 hh, pR_h_10 hh, pA_h_10 hh, pS_h_10 hh, pI_h_0 hh, pP_h_0 hh, pI_h_11 hh, pP_h_11 hh, pI_h_12 hh, pP_h_12 hh, plit, nI_add, pk_mul, pn_le, pn_lt, if_true, if_false, reduceIte, pS_21, pu_wr_ne]
      rw [if_neg (show ¬ 8 ≤ i from by omega)]
      by_cases e : c ≤ i
      · rw [if_neg (by omega)] at hv
        rw [if_pos e, hv, pu_wr_up]
        rfl
      · rw [if_pos (by omega)] at hv
        rw [if_neg e, hv, pu_wr_up]
        rfl) (by
      intro n
      rw [f_X4_writeReferences_b43, if_pos (by decide)]
      simp only [plit, nI_add]
      rw [show (o + 1) * 8 = o * 8 + 8 from by omega]) hb_FU (by decide)
    exact hl
  have hl := pm_seq (fun n a i => f_X4_writeReferences_b2 n h 21 (nI i) (pm a L r)) (fun i => pu_wr I A (i * 8)) 40 (out := some (pm (pu_wr I A 320) L r)) (by
    intro n i hi
    have hg := x4_grp hR w hi
    have hrf : ∀ s, s < 8 → pa_rf A (i * 8 + s) = if A i 0 ≠ 0 ∧ A i 1 ≠ 11 then A i (5 + s) else 0 := by
      intro s hs
      unfold pa_rf
      rw [show (i * 8 + s) / 8 = i from by omega, show (i * 8 + s) % 8 = s from by omega]
    simp (disch := omega) only [f_X4_writeReferences_b2, f_X4_writeReferences_b29, f_X4_writeReferences_b39, pbs, pO_h hh, pR_h_1 hh, pA_h_1 hh, pS_h_1 hh, pR_h_2 hh, pA_h_2 hh, pS_h_2 hh, pR_h_3 hh, pA_h_3 hh, pS_h_3 hh, pR_h_4 hh, pA_h_4 hh, pS_h_4 hh, pR_h_5 hh, pA_h_5 hh, pS_h_5 hh, pR_h_6 hh, pA_h_6 hh, pS_h_6 hh, pR_h_7 hh, pA_h_7 hh, pS_h_7 hh, pR_h_8 hh, pA_h_8 hh, pS_h_8 hh, pR_h_9 hh, pA_h_9 hh, pS_h_9 hh, pR_h_10 hh, pA_h_10 hh, pS_h_10 hh, pI_h_0 hh, pP_h_0 hh, pI_h_11 hh, pP_h_11 hh, pI_h_12 hh, pP_h_12 hh, plit, nI_add, pk_mul, pn_le, pn_lt, if_true, if_false, reduceIte, pu_wr_ne, hg]
    rw [if_neg (show ¬ 40 ≤ i from by omega)]
    by_cases e : A i 0 = 0
    · rw [if_pos e, hin _ i 0 hi (by decide) (fun s hs => by rw [if_neg (by omega), hrf s hs, if_neg (by simp [e]), mI_0])]
    · obtain ⟨s4, s5, s6, s7, s8, s9, s10⟩ := (hR.2.2.2 i hi).2 e
      have hg2 := pa_gr w hi e
      have hsl := pa_sl8 w hi e
      obtain ⟨-, -, -, hz⟩ := w.2.2.2.1 i hi e
      rw [if_neg e]
      simp (disch := omega) only [s4, s7, pn_eq]
      by_cases e1 : A i 1 = 11
      · rw [if_pos e1, hin _ i 0 hi (by decide) (fun s hs => by rw [if_neg (by omega), hrf s hs, if_neg (by simp [e1]), mI_0])]
      · rw [if_neg e1, hin _ i (A i 2) hi hsl (fun s hs => by
          have hq := hrf s hs
          rw [if_pos ⟨e, e1⟩] at hq
          rw [hq]
          by_cases e2 : s < A i 2
          · rw [if_pos e2, s10 s hs]
          · rw [if_neg e2, (hz s hs).1 (by omega), mI_0])]) (by
    intro n
    rw [f_X4_writeReferences_b2, if_pos (by decide)]) hb_FU (by decide)
  have e0 : pu_wr I A (0 * 8) = I := by
    funext b j
    unfold pu_wr
    rw [if_neg (by omega)]
  simp only [e0] at hl
  exact hl
/-- a place left out, as the class names it -/
def pqx (x : Int32) (a s : Nat) : Bool := decide (nI (a * 8 + s) = x)
def pa_refs (I : Nat → Nat → Int32) (A : Nat → Nat → Nat) : Prop := ∀ j, j < 320 → I 21 j = mI (pa_rf A j)
set_option maxRecDepth 8192 in
theorem pa_rf_le (w : pa_wf A) {o s : Nat} (ho : o < 40) (hs : s < 8) : pa_rf A (o * 8 + s) ≤ 40 := by
  unfold pa_rf
  rw [show (o * 8 + s) / 8 = o from by omega, show (o * 8 + s) % 8 = s from by omega]
  split
  · next h => exact ((w.2.2.2.1 o ho h.1).2.2.2 s hs).2.1
  · omega
set_option maxRecDepth 8192 in
theorem x6_targets (hf : pa_refs I A) (w : pa_wf A) {o : Nat} (ho : o < 40) (x : Int32) : f_X6_targetsOf 21 (nI o) x (pm I L r) = some (hb_mk (pa_e A (pqx x) o), pm I L r) := by
  unfold f_X6_targetsOf
  have hl := pm_loop (fun n a i => f_X6_targetsOf_b5 n 21 (nI o) x a (nI i) (pm I L r)) (fun i a => a ||| (if (!pqx x o i) = true then hb_mk (fun t => decide (pa_rf A (o * 8 + i) = t + 1)) else 0)) 8 (out := fun a => some (a, pm I L r)) (by
    intro n a i hi
    have hle := pa_rf_le w ho hi
    simp (disch := omega) only [f_X6_targetsOf_b5, f_X6_targetsOf_b39, plit, pk_mul, nI_add, pn_le, pA_21, pbs, hf (o * 8 + i) (by omega), x8_member]
    rw [if_neg (show ¬ 8 ≤ i from by omega)]
    by_cases e : nI (o * 8 + i) = x
    · have : pqx x o i = true := by simp [pqx, e]
      rw [if_pos e, this]
      rfl
    · have : pqx x o i = false := by simp [pqx, e]
      rw [if_neg e, this]
      simp only [Bool.not_false, if_true]
      rw [pb_congr (p := pq1 (mI (pa_rf A (o * 8 + i)))) (q := fun t => decide (pa_rf A (o * 8 + i) = t + 1)) (fun j hj => by
        unfold pq1
        apply decide_eq_decide.mpr
        rw [eq_comm, mI_nI (by omega) (by omega)])]) (by
    intro n a
    rw [f_X6_targetsOf_b5, if_pos (by decide)]) 0 hb_FU (by decide)
  refine hl.trans ?_
  rw [pm_fold_gather0]
  apply pb_some
  intro t ht
  unfold pa_e
  apply Bool.eq_iff_iff.mpr
  rw [Bool.and_eq_true, pq_any_iff, pq_any_iff]
  have hrf : ∀ s, s < 8 → pa_rf A (o * 8 + s) = if A o 0 ≠ 0 ∧ A o 1 ≠ 11 then A o (5 + s) else 0 := by
    intro s hs
    unfold pa_rf
    rw [show (o * 8 + s) / 8 = o from by omega, show (o * 8 + s) % 8 = s from by omega]
  constructor
  · rintro ⟨s, hs, h2⟩
    simp only [Bool.and_eq_true, decide_eq_true_eq] at h2
    rw [hrf s hs] at h2
    by_cases e : A o 0 ≠ 0 ∧ A o 1 ≠ 11
    · rw [if_pos e] at h2
      refine ⟨?_, s, hs, ?_⟩
      · simp only [Bool.and_eq_true, pa_al, decide_eq_true_eq]
        exact e
      · simp only [Bool.and_eq_true, decide_eq_true_eq]
        exact ⟨h2.2, h2.1⟩
    · rw [if_neg e] at h2
      omega
  · rintro ⟨h1, s, hs, h2⟩
    simp only [Bool.and_eq_true, pa_al, decide_eq_true_eq] at h1 h2
    refine ⟨s, hs, ?_⟩
    simp only [Bool.and_eq_true, decide_eq_true_eq]
    rw [hrf s hs, if_pos h1]
    exact ⟨h2.2, h2.1⟩
set_option maxRecDepth 8192 in
theorem bs_run_stop {E : Nat → Nat → Bool} {k : Nat} (h : ¬ k < (bs_run E k).1) : ∀ m, k ≤ m → bs_run E m = bs_run E k := by
  intro m
  induction m with
  | zero =>
    intro hk
    have : k = 0 := by omega
    rw [this]
  | succ m ih =>
    intro hk
    by_cases e : k = m + 1
    · rw [e]
    · have hm := ih (by omega)
      rw [bs_run, hm, if_neg (by omega)]
/-- the graph that a search goes through -/
def bs_X (A : Nat → Nat → Nat) (S0 W : Nat → Bool) (x : Int32) : Nat → Nat → Bool := bs_E (pg_E A W (pqx x)) (fun s => decide (s < 40) && S0 s && !W s)
set_option maxRecDepth 8192 in
theorem x6_run (hq : pk_q q) (hf : pa_refs I A) (w : pa_wf A) (S0 W : Nat → Bool) (x : Int32) : ∃ J, f_X6_run q 21 (hb_mk S0) (hb_mk W) x (pm I L r) = some (pm J (up2 L q 4 (hb_mk (bs_f (bs_run (bs_X A S0 W x) 42)))) r) ∧ bs_mem J q (bs_run (bs_X A S0 W x) 42) ∧ ∀ a, (a < q ∨ q + 3 < a) → J a = I a := by
  have hq1 : pm_Λ[q + 2]? = some (0, 40) := by rcases hq with e | e <;> (subst e; rfl)
  have hq2 : pm_Λ[q + 3]? = some (0, 40) := by rcases hq with e | e <;> (subst e; rfl)
  have hqn : q ≠ 21 ∧ q + 1 ≠ 21 ∧ q + 2 ≠ 21 ∧ q + 3 ≠ 21 := by
    rcases hq with e | e <;> subst e <;> decide
  have hqf : (21 : Nat) < q ∨ q + 3 < 21 := by rcases hq with e | e <;> subst e <;> decide
  obtain ⟨E, hE⟩ : ∃ E, E = bs_X A S0 W x := ⟨_, rfl⟩
  rw [← hE]
  obtain ⟨I0, hI0⟩ : ∃ I0, I0 = up2 (pu_fill (pu_fill I (q + 2) 40 (-nI 1)) (q + 3) 40 (-nI 1)) q 3 (nI 0) := ⟨_, rfl⟩
  have hm0 : bs_mem I0 q bs_G0 := by
    rw [hI0]
    refine ⟨?_, ?_, ?_⟩
    · rw [up2_eq]; rfl
    · intro j h1 h2
      have h2 : j < 1 := h2
      omega
    · intro o ho
      have e1 : up2 (pu_fill (pu_fill I (q + 2) 40 (-nI 1)) (q + 3) 40 (-nI 1)) q 3 (nI 0) (q + 2) o = -nI 1 := by
        rw [up2_ne (by omega)]
        unfold pu_fill
        rw [if_neg (by omega), if_pos ⟨rfl, ho⟩]
      have e2 : up2 (pu_fill (pu_fill I (q + 2) 40 (-nI 1)) (q + 3) 40 (-nI 1)) q 3 (nI 0) (q + 3) o = -nI 1 := by
        rw [up2_ne (by omega)]
        unfold pu_fill
        rw [if_pos ⟨rfl, ho⟩]
      rw [e1, e2]
      exact ⟨rfl, rfl⟩
  have hfr0 : ∀ a, (a < q ∨ q + 3 < a) → I0 a = I a := by
    intro a ha
    funext j
    rw [hI0, up2_ne (by omega)]
    unfold pu_fill
    rw [if_neg (by omega), if_neg (by omega)]
  have hL0 : up2 L q 4 (0 : Int64) q 4 = hb_mk (bs_f bs_G0) := by
    rw [up2_eq, ← pb_0]
    exact pb_congr (fun j _ => by simp [bs_f, bs_G0])
  obtain ⟨J1, e1, m1, f1⟩ := x6_enter (I := I0) (L := up2 L q 4 0) (r := r) hq (E := E) (k := 0) hm0 hL0 bs_inv0
  have hup : ∀ (y z : Int64), up2 (up2 L q 4 y) q 4 z = up2 L q 4 z := by
    intro y z
    funext b j
    unfold up2
    by_cases e : b = q ∧ j = 4
    · rw [if_pos e, if_pos e]
    · rw [if_neg e, if_neg e, if_neg e]
  have hr1 : bs_run E 1 = bs_place E 0 bs_G0 := by
    rw [bs_run, bs_run, if_pos (by decide)]
  have hloop := pm_for (fun n (J : Nat → Nat → Int32) i => f_X6_run_b43 n q 21 (hb_mk W) x (nI i) (pm J (up2 L q 4 (hb_mk (bs_f (bs_run E (i + 1))))) r)) (fun i J => bs_mem J q (bs_run E (i + 1)) ∧ ∀ a, (a < q ∨ q + 3 < a) → J a = I a) (fun s => ∃ J, s = pm J (up2 L q 4 (hb_mk (bs_f (bs_run E 42)))) r ∧ bs_mem J q (bs_run E 42) ∧ ∀ a, (a < q ∨ q + 3 < a) → J a = I a) 41 ?_ ?_ hb_FU 0 J1 (by decide) (by decide) ⟨by rw [hr1]; exact m1, fun a ha => by rw [f1 a ha, hfr0 a ha]⟩
  · obtain ⟨s, hs, J, hJ, h1, h2⟩ := hloop
    refine ⟨J, ?_, h1, h2⟩
    rw [← hJ, ← hs]
    unfold f_X6_run
    simp only [qR1 hq, qR2 hq, pbs, pf_fill hq1 (show 40 ≤ 400 from by decide), pf_fill hq2 (show 40 ≤ 400 from by decide), qP3 hq, qP4 hq, qO hq, plit]
    rw [← hI0, pb_anot]
    have earg : hb_mk (fun j => S0 j && !W j) = hb_mk (E (bs_G0.2.1 0)) := by
      apply pb_congr
      intro j hj
      show _ = E 40 j
      rw [hE]
      unfold bs_X
      rw [bs_E40]
      simp [hj]
    rw [earg]
    have e1' : f_X6_enter q (hb_mk (E (bs_G0.2.1 0))) (-nI 1) (nI 0) (pm I0 (up2 L q 4 0) r) = some (pm J1 (up2 (up2 L q 4 0) q 4 (hb_mk (bs_f (bs_place E 0 bs_G0)))) r) := e1
    rw [e1', hup, pbs, hr1]
  · rintro n J i hi ⟨p1, p2⟩
    rw [f_X6_run_b43]
    have hc := p1.1
    rcases bs_end (E := E) (i + 1) with ⟨j, hj, c1, c2⟩ | hinv
    · left
      have hst : ¬ i + 1 < (bs_run E (i + 1)).1 := by omega
      have hb := bs_c41 c2
      have hst2 := bs_run_stop hst 42 (by omega)
      simp (disch := omega) only [qI3 hq, pbs, hc, pn_le]
      rw [if_pos (show (bs_run E (i + 1)).1 - 1 ≤ i from by omega), hst2]
      exact hw_some.mpr ⟨J, rfl, p1, p2⟩
    · right
      have hk := hinv.1.2.2.1
      have hb := bs_c41 hinv
      have hod := p1.2.1 (i + 1) (by omega) hk
      rw [Nat.add_sub_cancel] at hod
      obtain ⟨o40, osd, -⟩ := hinv.2.1 (i + 1) (by omega) hk
      obtain ⟨o, ho⟩ : ∃ o, o = (bs_run E (i + 1)).2.1 (i + 1) := ⟨_, rfl⟩
      rw [← ho] at hod o40 osd
      have hst := (p1.2.2 o o40).1
      have hfJ : pa_refs J A := fun j hj => by rw [p2 21 hqf]; exact hf j hj
      obtain ⟨J2, e2, m2, f2⟩ := x6_enter (I := J) (L := up2 L q 4 (hb_mk (bs_f (bs_run E (i + 1))))) (r := r) hq (E := E) (k := i + 1) p1 up2_eq hinv
      have hr2 : bs_run E (i + 1 + 1) = bs_place E (i + 1) (bs_run E (i + 1)) := by
        rw [bs_run, if_pos hk]
      refine ⟨J2, ?_, by rw [hr2]; exact m2, fun a ha => by rw [f2 a ha, p2 a ha]⟩
      obtain ⟨d, hd⟩ : ∃ d, (bs_run E (i + 1)).2.2.1 o = d + 1 := ⟨(bs_run E (i + 1)).2.2.1 o - 1, by omega⟩
      rw [hd, mI_s] at hst
      rw [← ho, hd] at e2
      have henc : bs_enc o = nI o := by
        unfold bs_enc
        rw [if_neg (by omega), mI_s]
      have earg : hb_mk (fun j => pa_e A (pqx x) o j && !W j) = hb_mk (E o) := by
        apply pb_congr
        intro j hj
        rw [hE]
        unfold bs_X
        rw [bs_Elt o40]
        unfold pg_E
        simp [o40]
      simp (disch := omega) only [qI3 hq, pbs, hc, pn_le, plit, qR0 hq, qA1 hq, hod, x6_targets hfJ w o40, qR1 hq, qA2 hq, hst, qO hq, pb_anot, nI_add, earg]
      rw [if_neg (show ¬ (bs_run E (i + 1)).1 - 1 ≤ i from by omega), if_neg (show ¬ 40 ≤ i from by omega)]
      rw [henc, hup] at e2
      rw [e2, pbs, hr2]
  · rintro n J ⟨p1, p2⟩
    rw [f_X6_run_b43]
    have hc := p1.1
    have hb : (bs_run E (41 + 1)).1 ≤ 41 := by
      obtain ⟨k, -, h⟩ := bs_done (E := E)
      exact bs_c41 h
    simp (disch := omega) only [qI3 hq, pbs, hc, pn_le]
    rw [if_pos (show (bs_run E (41 + 1)).1 - 1 ≤ 41 from by omega)]
    exact hw_some.mpr ⟨J, rfl, p1, p2⟩
end X6R
