/-! the first of some, one more; comparisons of heaps; the class's own -/
def pf1 (p : Nat → Bool) (n : Nat) : Nat := if fa_first p n < n then fa_first p n + 1 else 0
set_option maxRecDepth 8192 in
theorem pf1_le (p : Nat → Bool) (n : Nat) : pf1 p n ≤ n := by
  unfold pf1
  split <;> omega
set_option maxRecDepth 8192 in
theorem pf1_some {p : Nat → Bool} {n i : Nat} (h : pf1 p n = i + 1) : i < n ∧ p i = true ∧ ∀ j, j < i → p j = false := by
  unfold pf1 at h
  split at h
  · next h1 =>
    have : fa_first p n = i := by omega
    rw [← this]
    exact ⟨h1, fa_first_yes p n h1, fun j hj => fa_first_no p n j hj⟩
  · omega
set_option maxRecDepth 8192 in
theorem pf1_none {p : Nat → Bool} {n : Nat} (h : pf1 p n = 0) : ∀ j, j < n → p j = false := by
  unfold pf1 at h
  split at h
  · omega
  · next h1 =>
    intro j hj
    exact fa_first_no p n j (by omega)
set_option maxRecDepth 8192 in
theorem pf1_eq {p : Nat → Bool} {n i : Nat} (hi : i < n) (hp : p i = true) (hm : ∀ j, j < i → p j = false) : pf1 p n = i + 1 := by
  cases e : pf1 p n with
  | zero =>
    have := pf1_none e i hi
    rw [hp] at this
    cases this
  | succ k =>
    obtain ⟨h1, h2, h3⟩ := pf1_some e
    rcases Nat.lt_trichotomy k i with h4 | h4 | h4
    · have := hm k h4
      rw [h2] at this
      cases this
    · rw [h4]
    · have := h3 i h4
      rw [hp] at this
      cases this
set_option maxRecDepth 8192 in
theorem pf1_eq0 {p : Nat → Bool} {n : Nat} (h : ∀ j, j < n → p j = false) : pf1 p n = 0 := by
  cases e : pf1 p n with
  | zero => rfl
  | succ k =>
    obtain ⟨h1, h2, -⟩ := pf1_some e
    rw [h k h1] at h2
    cases h2
set_option maxRecDepth 8192 in
theorem pf1_cong {p q : Nat → Bool} {n : Nat} (h : ∀ j, j < n → p j = q j) : pf1 p n = pf1 q n := by
  cases e : pf1 q n with
  | zero => exact pf1_eq0 (fun j hj => by rw [h j hj]; exact pf1_none e j hj)
  | succ k =>
    obtain ⟨h1, h2, h3⟩ := pf1_some e
    exact pf1_eq h1 (by rw [h k h1]; exact h2) (fun j hj => by rw [h j (by omega)]; exact h3 j hj)
/-! a loop that looks for the first -/
set_option maxRecDepth 8192 in
theorem pm_find {β : Type} (F : Nat → Nat → Option β) (p : Nat → Bool) (m : Nat) {out : Nat → Option β} (hstep : ∀ n i, i < m → p i = false → F (n + 1) i = F n (i + 1)) (hyes : ∀ n i, i < m → p i = true → (∀ j, j < i → p j = false) → F (n + 1) i = out (i + 1)) (hend : ∀ n, (∀ j, j < m → p j = false) → F (n + 1) m = out 0) (n : Nat) (h : m < n) : F n 0 = out (pf1 p m) := by
  have hle := fa_first_le p m
  have key := pm_seq (fun k (_ : Unit) i => F k i) (fun _ => ()) (fa_first p m) (out := out (pf1 p m)) (by
    intro k i hi
    exact hstep k i (by omega) (fa_first_no p m i hi)) (by
    intro k
    unfold pf1
    by_cases e : fa_first p m < m
    · rw [if_pos e]
      exact hyes k _ e (fa_first_yes p m e) (fun j hj => fa_first_no p m j hj)
    · rw [if_neg e]
      have : fa_first p m = m := by omega
      rw [this]
      exact hend k (fun j hj => fa_first_no p m j (by omega))) n (by omega)
  exact key
def pa_ws (A : Nat → Nat → Nat) (v : Nat) : Nat := pf1 (fun o => decide (A o 0 = v)) 40
def pa_sr (A : Nat → Nat → Nat) (o s : Nat) : Nat := if A o (5 + s) = 0 then 0 else A (A o (5 + s) - 1) 0
def pa_df (A : Nat → Nat → Nat) (o : Nat) (B : Nat → Nat → Nat) (q : Nat) : Bool := !(decide (A o 4 = B q 4) && decide (A o 2 = B q 2) && !pq_any (fun s => decide (pa_sr A o s ≠ pa_sr B q s)) 8)
/-- the k-th of a set -/
def pb_nth (p : Nat → Bool) (x : Int32) : Nat := pf1 (fun i => p i && decide (nI (fb_ct p i) = x)) 40
set_option maxRecDepth 8192 in
theorem x8_memberAt {p : Nat → Bool} {x : Int32} {σ : hb_M} : f_X8_memberAt (hb_mk p) x σ = some (mI (pb_nth p x), σ) := by
  unfold f_X8_memberAt pb_nth
  by_cases e : (0 : Int32) ≤ x
  · rw [if_pos e]
    refine pm_find (fun n i => f_X8_memberAt_b11 n (hb_mk p) x (nI (fb_ct p i)) (nI i) σ) (fun i => p i && decide (nI (fb_ct p i) = x)) 40 (out := fun k => some (mI k, σ)) ?_ ?_ ?_ hb_FU (by decide)
    · intro n i hi hp
      simp (disch := omega) only [f_X8_memberAt_b11, f_X8_memberAt_b38, plit, pn_le, x8_containsN hi, pbs, bIn, nI_add]
      rw [if_neg (show ¬ 40 ≤ i from by omega)]
      have hs : fb_ct p (i + 1) = fb_ct p i + (if p i then 1 else 0) := fb_ct_succ p i
      cases e1 : p i
      · rw [e1] at hs
        simp only [if_true]
        rw [hs]
        rfl
      · rw [e1] at hs hp
        simp only [Bool.true_and, decide_eq_false_iff_not] at hp
        simp only [Bool.true_eq_false, if_false, hp]
        rw [hs]
        rfl
    · intro n i hi hp _
      simp only [Bool.and_eq_true, decide_eq_true_eq] at hp
      simp (disch := omega) only [f_X8_memberAt_b11, f_X8_memberAt_b38, plit, pn_le, x8_containsN hi, pbs, bIn, nI_add, hp.1, hp.2, Bool.true_eq_false, if_false, if_true, mI_s]
      rw [if_neg (show ¬ 40 ≤ i from by omega)]
    · intro n _
      rw [f_X8_memberAt_b11, if_pos (by decide)]
      rfl
  · rw [if_neg e, pf1_eq0, mI_0]
    · rfl
    · intro i hi
      have : ¬ nI (fb_ct p i) = x := by
        intro h
        apply e
        rw [← h]
        have := fb_ct_le p i
        exact (nI_leI (by decide) (by omega)).mpr (Nat.zero_le _)
      simp [this]
section X4E
variable {I : Nat → Nat → Int32} {L : Nat → Nat → Int64} {r : Nat → Option Nat} {A B : Nat → Nat → Nat} {h g : Nat}
set_option maxRecDepth 8192 in
theorem x4_withSerial (hh : pm_hp h) (hR : ph_rep I h A) (w : pa_wf A) {v : Nat} (hv : v ≠ 0) (hv2 : v < 2 ^ 31) : f_X4_objectWithSerial h (nI v) (pm I L r) = some (mI (pa_ws A v), pm I L r) := by
  unfold f_X4_objectWithSerial pa_ws
  refine pm_find (fun n i => f_X4_objectWithSerial_b2 n h (nI v) (nI i) (pm I L r)) (fun o => decide (A o 0 = v)) 40 (out := fun k => some (mI k, pm I L r)) ?_ ?_ ?_ hb_FU (by decide)
  · intro n i hi hp
    have hp : ¬ A i 0 = v := of_decide_eq_false hp
    have h30 := pa_s0 w hi
    simp (disch := omega) only [f_X4_objectWithSerial_b2, f_X4_objectWithSerial_b30, pbs, pO_h hh, pR_h_1 hh, pA_h_1 hh, pS_h_1 hh, pR_h_2 hh, pA_h_2 hh, pS_h_2 hh, pR_h_3 hh, pA_h_3 hh, pS_h_3 hh, pR_h_4 hh, pA_h_4 hh, pS_h_4 hh, pR_h_5 hh, pA_h_5 hh, pS_h_5 hh, pR_h_6 hh, pA_h_6 hh, pS_h_6 hh, pR_h_7 hh, pA_h_7 hh, pS_h_7 hh, pR_h_8 hh, pA_h_8 hh, pS_h_8 hh, pR_h_9 hh, pA_h_9 hh, pS_h_9 hh, pR_h_10 hh, pA_h_10 hh, pS_h_10 hh, pI_h_0 hh, pP_h_0 hh, pI_h_11 hh, pP_h_11 hh, pI_h_12 hh, pP_h_12 hh, plit, nI_add, pk_mul, pn_le, pn_lt, if_true, if_false, reduceIte, x4_grp hR w hi]
    rw [if_neg (show ¬ 40 ≤ i from by omega)]
    by_cases e : A i 0 = 0
    · rw [if_pos e]
    · have h5 := ((hR.2.2.2 i hi).2 e).2.1
      rw [if_neg e]
      simp (disch := omega) only [h5, pn_eq, hp, if_false]
  · intro n i hi hp _
    have hp : A i 0 = v := of_decide_eq_true hp
    have e : A i 0 ≠ 0 := by omega
    have h5 := ((hR.2.2.2 i hi).2 e).2.1
    simp (disch := omega) only [f_X4_objectWithSerial_b2, f_X4_objectWithSerial_b30, pbs, pO_h hh, pR_h_1 hh, pA_h_1 hh, pS_h_1 hh, pR_h_2 hh, pA_h_2 hh, pS_h_2 hh, pR_h_3 hh, pA_h_3 hh, pS_h_3 hh, pR_h_4 hh, pA_h_4 hh, pS_h_4 hh, pR_h_5 hh, pA_h_5 hh, pS_h_5 hh, pR_h_6 hh, pA_h_6 hh, pS_h_6 hh, pR_h_7 hh, pA_h_7 hh, pS_h_7 hh, pR_h_8 hh, pA_h_8 hh, pS_h_8 hh, pR_h_9 hh, pA_h_9 hh, pS_h_9 hh, pR_h_10 hh, pA_h_10 hh, pS_h_10 hh, pI_h_0 hh, pP_h_0 hh, pI_h_11 hh, pP_h_11 hh, pI_h_12 hh, pP_h_12 hh, plit, nI_add, pk_mul, pn_le, pn_lt, if_true, if_false, reduceIte, x4_grp hR w hi, h5, hp, hv, mI_s]
    rw [if_neg (show ¬ 40 ≤ i from by omega)]
  · intro n _
    rw [f_X4_objectWithSerial_b2, if_pos (by decide)]
    rfl
def pe0 (n : Nat) : Int32 := if n = 0 then -nI 1 else nI n
set_option maxRecDepth 8192 in
theorem pe0_eq {a b : Nat} (ha : a < 2 ^ 31) (hb : b < 2 ^ 31) : (pe0 a = pe0 b) = (a = b) := by
  unfold pe0
  by_cases e1 : a = 0
  · by_cases e2 : b = 0
    · simp [e1, e2]
    · rw [if_pos e1, if_neg e2]
      have hne : ¬ (-nI 1 : Int32) = nI b := fun h => by
        have h2 := h.symm
        rw [nI_m1 hb] at h2
        exact h2
      exact propext ⟨fun h => (hne h).elim, fun h => by omega⟩
  · by_cases e2 : b = 0
    · rw [if_neg e1, if_pos e2, nI_m1 ha]
      exact propext ⟨fun h => h.elim, fun h => by omega⟩
    · rw [if_neg e1, if_neg e2, pn_eq ha hb]
set_option maxRecDepth 8192 in
theorem pa_sr_lt (w : pa_wf A) {o s : Nat} (ho : o < 40) (ha : A o 0 ≠ 0) (hs : s < 8) : pa_sr A o s < 2 ^ 30 := by
  unfold pa_sr
  split
  · decide
  · have := ((w.2.2.2.1 o ho ha).2.2.2 s hs).2.1
    exact pa_s0 w (by omega)
set_option maxRecDepth 8192 in
theorem x4_serialIn (hh : pm_hp h) (hR : ph_rep I h A) (w : pa_wf A) {o s : Nat} (ho : o < 40) (ha : A o 0 ≠ 0) (hs : s < 8) : f_X4_serialIn h (nI o) (nI s) (pm I L r) = some (pe0 (pa_sr A o s), pm I L r) := by
  obtain ⟨-, h40, hal⟩ := (w.2.2.2.1 o ho ha).2.2.2 s hs
  unfold f_X4_serialIn
  simp only [pbs, pO_h hh, pR_h_1 hh, pA_h_1 hh, pS_h_1 hh, pR_h_2 hh, pA_h_2 hh, pS_h_2 hh, pR_h_3 hh, pA_h_3 hh, pS_h_3 hh, pR_h_4 hh, pA_h_4 hh, pS_h_4 hh, pR_h_5 hh, pA_h_5 hh, pS_h_5 hh, pR_h_6 hh, pA_h_6 hh, pS_h_6 hh, pR_h_7 hh, pA_h_7 hh, pS_h_7 hh, pR_h_8 hh, pA_h_8 hh, pS_h_8 hh, pR_h_9 hh, pA_h_9 hh, pS_h_9 hh, pR_h_10 hh, pA_h_10 hh, pS_h_10 hh, pI_h_0 hh, pP_h_0 hh, pI_h_11 hh, pP_h_11 hh, pI_h_12 hh, pP_h_12 hh, plit, nI_add, pk_mul, pn_le, pn_lt, if_true, if_false, reduceIte, x4_target hh hR w ho ha hs, x4_hasObject hh hR w, bIn]
  unfold pa_sr
  by_cases e : A o (5 + s) = 0
  · rw [e, mI_0, if_pos rfl]
    rfl
  · obtain ⟨t, ht⟩ : ∃ t, A o (5 + s) = t + 1 := ⟨A o (5 + s) - 1, by omega⟩
    have hat := hal e
    rw [if_neg e]
    rw [ht] at hat ⊢
    rw [Nat.add_sub_cancel] at hat ⊢
    have h5 := ((hR.2.2.2 t (by omega)).2 hat).2.1
    rw [mI_s, pa_isO_nI (by omega)]
    have e2 : pa_al A t = true := by simp [pa_al, hat]
    simp (disch := omega) only [e2, Bool.true_eq_false, if_false, pbs, pO_h hh, pR_h_1 hh, pA_h_1 hh, pS_h_1 hh, pR_h_2 hh, pA_h_2 hh, pS_h_2 hh, pR_h_3 hh, pA_h_3 hh, pS_h_3 hh, pR_h_4 hh, pA_h_4 hh, pS_h_4 hh, pR_h_5 hh, pA_h_5 hh, pS_h_5 hh, pR_h_6 hh, pA_h_6 hh, pS_h_6 hh, pR_h_7 hh, pA_h_7 hh, pS_h_7 hh, pR_h_8 hh, pA_h_8 hh, pS_h_8 hh, pR_h_9 hh, pA_h_9 hh, pS_h_9 hh, pR_h_10 hh, pA_h_10 hh, pS_h_10 hh, pI_h_0 hh, pP_h_0 hh, pI_h_11 hh, pP_h_11 hh, pI_h_12 hh, pP_h_12 hh, plit, nI_add, pk_mul, pn_le, pn_lt, if_true, if_false, reduceIte, h5]
    unfold pe0
    rw [if_neg hat]
set_option maxRecDepth 8192 in
theorem x4_differs (hh : pm_hp h) (hg : pm_hp g) (hR : ph_rep I h A) (hS : ph_rep I g B) (w : pa_wf A) (w2 : pa_wf B) {o q : Nat} (ho : o < 40) (ha : A o 0 ≠ 0) (hq : q < 40) (hb : B q 0 ≠ 0) : f_X4_differs h (nI o) g (nI q) (pm I L r) = some (bI (pa_df A o B q), pm I L r) := by
  obtain ⟨s4, s5, s6, s7, s8, s9, s10⟩ := (hR.2.2.2 o ho).2 ha
  obtain ⟨t4, t5, t6, t7, t8, t9, t10⟩ := (hS.2.2.2 q hq).2 hb
  have a4 : A o 4 ≤ 7 := (w.2.2.2.1 o ho ha).2.2.1
  have b4 : B q 4 ≤ 7 := (w2.2.2.2.1 q hq hb).2.2.1
  have a2 := pa_sl8 w ho ha
  have b2 := pa_sl8 w2 hq hb
  have hloop : f_X4_differs_b35 hb_FU h (nI o) g (nI q) (nI 0) (pm I L r) = some (bI (pq_any (fun s => decide (pa_sr A o s ≠ pa_sr B q s)) 8), pm I L r) := by
    have hb2 : decide (pf1 (fun s => decide (pa_sr A o s ≠ pa_sr B q s)) 8 ≠ 0) = pq_any (fun s => decide (pa_sr A o s ≠ pa_sr B q s)) 8 := by
      cases e : pf1 (fun s => decide (pa_sr A o s ≠ pa_sr B q s)) 8 with
      | zero => rw [(pq_any_false _ _).mpr (pf1_none e)]; rfl
      | succ k =>
        obtain ⟨k1, k2, -⟩ := pf1_some e
        rw [(pq_any_iff _ _).mpr ⟨k, k1, k2⟩]
        exact decide_eq_true (by omega)
    rw [← hb2]
    refine pm_find (fun n i => f_X4_differs_b35 n h (nI o) g (nI q) (nI i) (pm I L r)) (fun s => decide (pa_sr A o s ≠ pa_sr B q s)) 8 (out := fun k => some (bI (decide (k ≠ 0)), pm I L r)) ?_ ?_ ?_ hb_FU (by decide)
    · intro n i hi hp
      have e1 := pa_sr_lt w ho ha hi
      have e2 := pa_sr_lt w2 hq hb hi
      have hp : pa_sr A o i = pa_sr B q i := by simpa using hp
      simp (disch := omega) only [f_X4_differs_b35, plit, pn_le, pbs, pO_h hh, x4_serialIn hh hR w ho ha hi, pO_h hg, x4_serialIn hg hS w2 hq hb hi, hp, if_true, nI_add]
      rw [if_neg (show ¬ 8 ≤ i from by omega)]
    · intro n i hi hp _
      have e1 := pa_sr_lt w ho ha hi
      have e2 := pa_sr_lt w2 hq hb hi
      have hp : ¬ pa_sr A o i = pa_sr B q i := by simpa using hp
      have hne : ¬ pe0 (pa_sr A o i) = pe0 (pa_sr B q i) := by
        rw [pe0_eq (by omega) (by omega)]
        exact hp
      simp (disch := omega) only [f_X4_differs_b35, plit, pn_le, pbs, pO_h hh, x4_serialIn hh hR w ho ha hi, pO_h hg, x4_serialIn hg hS w2 hq hb hi, hne, if_false]
      rw [if_neg (show ¬ 8 ≤ i from by omega)]
      have : decide (i + 1 ≠ 0) = true := decide_eq_true (by omega)
      rw [this]
      rfl
    · intro n _
      rw [f_X4_differs_b35, if_pos (by decide)]
      rfl
  unfold f_X4_differs pa_df
  simp (disch := omega) only [pbs, pO_h hh, pR_h_1 hh, pA_h_1 hh, pS_h_1 hh, pR_h_2 hh, pA_h_2 hh, pS_h_2 hh, pR_h_3 hh, pA_h_3 hh, pS_h_3 hh, pR_h_4 hh, pA_h_4 hh, pS_h_4 hh, pR_h_5 hh, pA_h_5 hh, pS_h_5 hh, pR_h_6 hh, pA_h_6 hh, pS_h_6 hh, pR_h_7 hh, pA_h_7 hh, pS_h_7 hh, pR_h_8 hh, pA_h_8 hh, pS_h_8 hh, pR_h_9 hh, pA_h_9 hh, pS_h_9 hh, pR_h_10 hh, pA_h_10 hh, pS_h_10 hh, pI_h_0 hh, pP_h_0 hh, pI_h_11 hh, pP_h_11 hh, pI_h_12 hh, pP_h_12 hh, plit, nI_add, pk_mul, pn_le, pn_lt, if_true, if_false, reduceIte, s9, s7, pR_h_9 hg, pR_h_7 hg, pA_h_9 hg, pA_h_7 hg, t9, t7, pn_eq, hloop]
  by_cases e1 : A o 4 = B q 4
  · by_cases e2 : A o 2 = B q 2
    · simp [e1, e2]
    · simp [e1, e2, bI_t]
  · simp [e1, bI_t]
set_option maxRecDepth 8192 in
theorem pa_ws_al (w : pa_wf B) {v q : Nat} (hv : v ≠ 0) (h : pa_ws B v = q + 1) : q < 40 ∧ B q 0 ≠ 0 ∧ B q 0 = v := by
  obtain ⟨h1, h2, -⟩ := pf1_some h
  have h2 : B q 0 = v := of_decide_eq_true h2
  exact ⟨h1, by omega, h2⟩
def pa_nin (A B : Nat → Nat → Nat) : Nat := fb_ct (fun o => pa_al A o && decide (pa_ws B (A o 0) = 0)) 40
def pa_chg (A B : Nat → Nat → Nat) : Nat := fb_ct (fun o => pa_al A o && decide (pa_ws B (A o 0) ≠ 0) && pa_df A o B (pa_ws B (A o 0) - 1)) 40
set_option maxRecDepth 8192 in
theorem x4_notIn (hh : pm_hp h) (hg : pm_hp g) (hR : ph_rep I h A) (hS : ph_rep I g B) (w : pa_wf A) (w2 : pa_wf B) : f_X4_countNotIn h g (pm I L r) = some (nI (pa_nin A B), pm I L r) := by
  unfold f_X4_countNotIn
  have hl := pm_loop (fun n a i => f_X4_countNotIn_b4 n h g a (nI i) (pm I L r)) (fun i a => a + nI (pb_b (pa_al A i && decide (pa_ws B (A i 0) = 0)))) 40 (out := fun a => some (a, pm I L r)) (by
    intro n a i hi
    have h30 := pa_s0 w hi
    simp (disch := omega) only [f_X4_countNotIn_b4, f_X4_countNotIn_b38, f_X4_countNotIn_b39, f_X4_countNotIn_b52, pbs, pO_h hh, pR_h_1 hh, pA_h_1 hh, pS_h_1 hh, pR_h_2 hh, pA_h_2 hh, pS_h_2 hh, pR_h_3 hh, pA_h_3 hh, pS_h_3 hh, pR_h_4 hh, pA_h_4 hh, pS_h_4 hh, pR_h_5 hh, pA_h_5 hh, pS_h_5 hh, pR_h_6 hh, pA_h_6 hh, pS_h_6 hh, pR_h_7 hh, pA_h_7 hh, pS_h_7 hh, pR_h_8 hh, pA_h_8 hh, pS_h_8 hh, pR_h_9 hh, pA_h_9 hh, pS_h_9 hh, pR_h_10 hh, pA_h_10 hh, pS_h_10 hh, pI_h_0 hh, pP_h_0 hh, pI_h_11 hh, pP_h_11 hh, pI_h_12 hh, pP_h_12 hh, plit, nI_add, pk_mul, pn_le, pn_lt, if_true, if_false, reduceIte, x4_grp hR w hi, show (nI 1 = nI 0) = False from eq_false (by decide)]
    rw [if_neg (show ¬ 40 ≤ i from by omega)]
    by_cases e : A i 0 = 0
    · simp [e, pa_al, pb_b]
    · have h5 := ((hR.2.2.2 i hi).2 e).2.1
      have hle : pa_ws B (A i 0) ≤ 40 := pf1_le _ _
      rw [if_neg e]
      simp (disch := omega) only [h5, pO_h hg, x4_withSerial hg hS w2 e, pbs, mI_none]
      by_cases e2 : pa_ws B (A i 0) = 0
      · simp [e, e2, pa_al, pb_b]
      · simp [e, e2, pa_al, pb_b]) (by
    intro n a
    rw [f_X4_countNotIn_b4, if_pos (by decide)]) (nI 0) hb_FU (by decide)
  refine hl.trans ?_
  rw [pm_fold_sum, Nat.zero_add]
  unfold pa_nin
  rw [pc_ct]
set_option maxRecDepth 8192 in
theorem x4_changed (hh : pm_hp h) (hg : pm_hp g) (hR : ph_rep I h A) (hS : ph_rep I g B) (w : pa_wf A) (w2 : pa_wf B) : f_X4_countChangedSince h g (pm I L r) = some (nI (pa_chg A B), pm I L r) := by
  unfold f_X4_countChangedSince
  have hl := pm_loop (fun n a i => f_X4_countChangedSince_b4 n h g a (nI i) (pm I L r)) (fun i a => a + nI (pb_b (pa_al A i && decide (pa_ws B (A i 0) ≠ 0) && pa_df A i B (pa_ws B (A i 0) - 1)))) 40 (out := fun a => some (a, pm I L r)) (by
    intro n a i hi
    have h30 := pa_s0 w hi
    simp (disch := omega) only [f_X4_countChangedSince_b4, f_X4_countChangedSince_b34, f_X4_countChangedSince_b58, f_X4_countChangedSince_b59, pbs, pO_h hh, pR_h_1 hh, pA_h_1 hh, pS_h_1 hh, pR_h_2 hh, pA_h_2 hh, pS_h_2 hh, pR_h_3 hh, pA_h_3 hh, pS_h_3 hh, pR_h_4 hh, pA_h_4 hh, pS_h_4 hh, pR_h_5 hh, pA_h_5 hh, pS_h_5 hh, pR_h_6 hh, pA_h_6 hh, pS_h_6 hh, pR_h_7 hh, pA_h_7 hh, pS_h_7 hh, pR_h_8 hh, pA_h_8 hh, pS_h_8 hh, pR_h_9 hh, pA_h_9 hh, pS_h_9 hh, pR_h_10 hh, pA_h_10 hh, pS_h_10 hh, pI_h_0 hh, pP_h_0 hh, pI_h_11 hh, pP_h_11 hh, pI_h_12 hh, pP_h_12 hh, plit, nI_add, pk_mul, pn_le, pn_lt, if_true, if_false, reduceIte, x4_grp hR w hi]
    rw [if_neg (show ¬ 40 ≤ i from by omega)]
    by_cases e : A i 0 = 0
    · simp [e, pa_al, pb_b]
    · have h5 := ((hR.2.2.2 i hi).2 e).2.1
      have hle : pa_ws B (A i 0) ≤ 40 := pf1_le _ _
      rw [if_neg e]
      simp (disch := omega) only [h5, pO_h hg, x4_withSerial hg hS w2 e, pbs, mI_none]
      cases e2 : pa_ws B (A i 0) with
      | zero => simp [e, pa_al, pb_b]
      | succ q =>
        obtain ⟨q1, q2, -⟩ := pa_ws_al w2 e e2
        have hd := x4_differs (L := L) (r := r) hh hg hR hS w w2 hi e q1 q2
        rw [if_neg (by omega)]
        simp only [mI_s, hd, pbs, pO_h hh, bIn, Nat.add_sub_cancel]
        cases e3 : pa_df A i B q
        · simp [e, pa_al, pb_b]
        · simp [e, pa_al, pb_b]) (by
    intro n a
    rw [f_X4_countChangedSince_b4, if_pos (by decide)]) (nI 0) hb_FU (by decide)
  refine hl.trans ?_
  rw [pm_fold_sum, Nat.zero_add]
  unfold pa_chg
  rw [pc_ct]
end X4E
