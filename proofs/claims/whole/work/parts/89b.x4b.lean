/-! the class's heap: what changes it -/
set_option maxRecDepth 8192 in
theorem up2_ne {α : Type} {I : Nat → Nat → α} {a j : Nat} {x : α} {b i : Nat} (h : b ≠ a) : up2 I a j x b i = I b i := by simp [up2, h]
set_option maxRecDepth 8192 in
theorem up2_nj {α : Type} {I : Nat → Nat → α} {a j : Nat} {x : α} {b i : Nat} (h : i ≠ j) : up2 I a j x b i = I b i := by simp [up2, h]
set_option maxRecDepth 8192 in
theorem up2_eq {α : Type} {I : Nat → Nat → α} {a j : Nat} {x : α} : up2 I a j x a j = x := by simp [up2]
def pu_es (I : Nat → Nat → Int32) (a lo hi : Nat) : Nat → Nat → Int32 := fun b j => if b = a ∧ lo ≤ j ∧ j < hi then -nI 1 else I b j
set_option maxRecDepth 8192 in
theorem pu_es_ne {I : Nat → Nat → Int32} {a lo hi b j : Nat} (h : b ≠ a) : pu_es I a lo hi b j = I b j := by simp [pu_es, h]
set_option maxRecDepth 8192 in
theorem pu_es_out {I : Nat → Nat → Int32} {a lo hi b j : Nat} (h : j < lo ∨ hi ≤ j) : pu_es I a lo hi b j = I b j := by
  unfold pu_es
  rw [if_neg (by omega)]
set_option maxRecDepth 8192 in
theorem pu_es_in {I : Nat → Nat → Int32} {a lo hi j : Nat} (h : lo ≤ j) (h2 : j < hi) : pu_es I a lo hi a j = -nI 1 := by
  unfold pu_es
  rw [if_pos ⟨rfl, h, h2⟩]
section X4B
variable {I : Nat → Nat → Int32} {L : Nat → Nat → Int64} {r : Nat → Option Nat} {A : Nat → Nat → Nat} {h : Nat}
set_option maxRecDepth 8192 in
theorem x4_empty (hh : pm_hp h) {o f : Nat} (ho : o < 40) (hf : f ≤ 8) : f_X4_emptySlotsFrom h (nI o) (nI f) (pm I L r) = some (pm (pu_es I (h + 10) (o * 8 + f) (o * 8 + 8)) L r) := by
  unfold f_X4_emptySlotsFrom
  have hl := pm_loop (fun n a i => f_X4_emptySlotsFrom_b2 n h (nI o) (nI (f + i)) (pm a L r)) (fun i a => up2 a (h + 10) (o * 8 + (f + i)) (-nI 1)) (8 - f) (out := fun a => some (pm a L r)) (by
    intro n a i hi
    simp (disch := omega) only [f_X4_emptySlotsFrom_b2, pbs, pO_h hh, pR_h_1 hh, pA_h_1 hh, pS_h_1 hh, pR_h_2 hh, pA_h_2 hh, pS_h_2 hh, pR_h_3 hh, pA_h_3 hh, pS_h_3 hh, pR_h_4 hh, pA_h_4 hh, pS_h_4 hh, pR_h_5 hh, pA_h_5 hh, pS_h_5 hh, pR_h_6 hh, pA_h_6 hh, pS_h_6 hh, pR_h_7 hh, pA_h_7 hh, pS_h_7 hh, pR_h_8 hh, pA_h_8 hh, pS_h_8 hh, pR_h_9 hh, pA_h_9 hh, pS_h_9 hh, pR_h_10 hh, pA_h_10 hh, pS_h_10 hh, pI_h_0 hh, pP_h_0 hh, pI_h_11 hh, pP_h_11 hh, pI_h_12 hh, pP_h_12 hh, plit, nI_add, pk_mul, pn_le, pn_lt, if_true, if_false, reduceIte]
    rw [if_neg (show ¬ 8 ≤ f + i from by omega)]
    rfl) (by
    intro n a
    simp (disch := omega) only [f_X4_emptySlotsFrom_b2, plit, pn_le]
    rw [if_pos (show 8 ≤ f + (8 - f) from by omega)]) I hb_FU (Nat.lt_of_le_of_lt (Nat.sub_le 8 f) (by decide))
  refine hl.trans ?_
  have := pm_fold_inv (fun i a => up2 a (h + 10) (o * 8 + (f + i)) (-nI 1)) (fun k a => a = pu_es I (h + 10) (o * 8 + f) (o * 8 + f + k)) (8 - f) I (by
    funext b j
    unfold pu_es
    rw [if_neg (by omega)]) (by
    intro i b hi hb
    subst hb
    funext b j
    unfold up2 pu_es
    by_cases e : b = h + 10
    · by_cases e2 : j = o * 8 + (f + i)
      · rw [if_pos ⟨e, e2⟩, if_pos ⟨e, by omega, by omega⟩]
      · rw [if_neg (by omega)]
        by_cases e3 : o * 8 + f ≤ j ∧ j < o * 8 + f + i
        · rw [if_pos ⟨e, e3⟩, if_pos ⟨e, by omega, by omega⟩]
        · rw [if_neg (by omega), if_neg (by omega)]
    · rw [if_neg (by omega), if_neg (by omega), if_neg (by omega)])
  rw [this, show o * 8 + f + (8 - f) = o * 8 + 8 from by omega]
set_option maxRecDepth 8192 in
theorem x4_free (hh : pm_hp h) (hR : ph_rep I h A) (w : pa_wf A) {o : Nat} (ho : o < 40) (h0 : A o 0 = 0) (hm : ∀ p, p < o → A p 0 ≠ 0) : f_X4_lowestFree h (pm I L r) = some (nI o, pm I L r) := by
  unfold f_X4_lowestFree
  exact pm_loop (fun n (_ : Unit) i => f_X4_lowestFree_b2 n h (nI i) (pm I L r)) (fun _ a => a) o (out := fun _ => some (nI o, pm I L r)) (by
    intro n a i hi
    have := hm i hi
    simp (disch := omega) only [f_X4_lowestFree_b2, pbs, pO_h hh, pR_h_1 hh, pA_h_1 hh, pS_h_1 hh, pR_h_2 hh, pA_h_2 hh, pS_h_2 hh, pR_h_3 hh, pA_h_3 hh, pS_h_3 hh, pR_h_4 hh, pA_h_4 hh, pS_h_4 hh, pR_h_5 hh, pA_h_5 hh, pS_h_5 hh, pR_h_6 hh, pA_h_6 hh, pS_h_6 hh, pR_h_7 hh, pA_h_7 hh, pS_h_7 hh, pR_h_8 hh, pA_h_8 hh, pS_h_8 hh, pR_h_9 hh, pA_h_9 hh, pS_h_9 hh, pR_h_10 hh, pA_h_10 hh, pS_h_10 hh, pI_h_0 hh, pP_h_0 hh, pI_h_11 hh, pP_h_11 hh, pI_h_12 hh, pP_h_12 hh, plit, nI_add, pk_mul, pn_le, pn_lt, if_true, if_false, reduceIte, x4_grp hR w (show i < 40 from by omega), this]
    rw [if_neg (show ¬ 40 ≤ i from by omega)]) (by
    intro n a
    simp (disch := omega) only [f_X4_lowestFree_b2, pbs, pO_h hh, pR_h_1 hh, pA_h_1 hh, pS_h_1 hh, pR_h_2 hh, pA_h_2 hh, pS_h_2 hh, pR_h_3 hh, pA_h_3 hh, pS_h_3 hh, pR_h_4 hh, pA_h_4 hh, pS_h_4 hh, pR_h_5 hh, pA_h_5 hh, pS_h_5 hh, pR_h_6 hh, pA_h_6 hh, pS_h_6 hh, pR_h_7 hh, pA_h_7 hh, pS_h_7 hh, pR_h_8 hh, pA_h_8 hh, pS_h_8 hh, pR_h_9 hh, pA_h_9 hh, pS_h_9 hh, pR_h_10 hh, pA_h_10 hh, pS_h_10 hh, pI_h_0 hh, pP_h_0 hh, pI_h_11 hh, pP_h_11 hh, pI_h_12 hh, pP_h_12 hh, plit, nI_add, pk_mul, pn_le, pn_lt, if_true, if_false, reduceIte, x4_grp hR w ho, h0]
    rw [if_neg (show ¬ 40 ≤ o from by omega)]) () hb_FU (Nat.lt_trans ho (by decide))
set_option maxRecDepth 8192 in
theorem x4_full (hh : pm_hp h) (hR : ph_rep I h A) (w : pa_wf A) (hm : ∀ p, p < 40 → A p 0 ≠ 0) : f_X4_lowestFree h (pm I L r) = some (-nI 1, pm I L r) := by
  unfold f_X4_lowestFree
  exact pm_loop (fun n (_ : Unit) i => f_X4_lowestFree_b2 n h (nI i) (pm I L r)) (fun _ a => a) 40 (out := fun _ => some (-nI 1, pm I L r)) (by
    intro n a i hi
    have := hm i hi
    simp (disch := omega) only [f_X4_lowestFree_b2, pbs, pO_h hh, pR_h_1 hh, pA_h_1 hh, pS_h_1 hh, pR_h_2 hh, pA_h_2 hh, pS_h_2 hh, pR_h_3 hh, pA_h_3 hh, pS_h_3 hh, pR_h_4 hh, pA_h_4 hh, pS_h_4 hh, pR_h_5 hh, pA_h_5 hh, pS_h_5 hh, pR_h_6 hh, pA_h_6 hh, pS_h_6 hh, pR_h_7 hh, pA_h_7 hh, pS_h_7 hh, pR_h_8 hh, pA_h_8 hh, pS_h_8 hh, pR_h_9 hh, pA_h_9 hh, pS_h_9 hh, pR_h_10 hh, pA_h_10 hh, pS_h_10 hh, pI_h_0 hh, pP_h_0 hh, pI_h_11 hh, pP_h_11 hh, pI_h_12 hh, pP_h_12 hh, plit, nI_add, pk_mul, pn_le, pn_lt, if_true, if_false, reduceIte, x4_grp hR w hi, this]
    rw [if_neg (show ¬ 40 ≤ i from by omega)]) (by
    intro n a
    rw [f_X4_lowestFree_b2, if_pos (by decide)]
    rfl) () hb_FU (by decide)
/-! one object of a heap is changed, or made -/
set_option maxRecDepth 8192 in
theorem ph_one (hR : ph_rep I h A) {J : Nat → Nat → Int32} {B : Nat → Nat → Nat} {o : Nat} (c0 : J h 0 = I h 0) (c1 : ∀ c, J (h + 1) c = I (h + 1) c) (c2 : ∀ c, J (h + 2) c = I (h + 2) c) (c3 : ∀ c, J (h + 3) c = I (h + 3) c) (c11 : J h 11 = nI (B 40 1)) (b40 : B 40 0 = A 40 0) (b41 : ∀ c, B 41 c = A 41 c) (b42 : ∀ c, B 42 c = A 42 c) (b43 : ∀ c, B 43 c = A 43 c) (hoth : ∀ p, p < 40 → p ≠ o → (∀ k, B p k = A p k) ∧ J (h + 4) p = I (h + 4) p ∧ J (h + 5) p = I (h + 5) p ∧ J (h + 6) p = I (h + 6) p ∧ J (h + 7) p = I (h + 7) p ∧ J (h + 8) p = I (h + 8) p ∧ J (h + 9) p = I (h + 9) p ∧ ∀ s, s < 8 → J (h + 10) (p * 8 + s) = I (h + 10) (p * 8 + s)) (hal : B o 0 ≠ 0) (hown : J (h + 4) o = nI (B o 1) ∧ J (h + 5) o = nI (B o 0) ∧ J (h + 6) o = nI (pa_so B o) ∧ J (h + 7) o = nI (B o 2) ∧ J (h + 8) o = nI (B o 3) ∧ J (h + 9) o = nI (B o 4) ∧ ∀ s, s < 8 → J (h + 10) (o * 8 + s) = mI (B o (5 + s))) : ph_rep J h B := by
  refine ⟨by rw [c0, b40]; exact hR.1, c11, ?_, ?_⟩
  · intro c hc
    rw [b40] at hc
    rw [c1, c2, c3, b41, pa_fo_cong b41 b42, pa_da_cong b41 b43]
    exact hR.2.2.1 c hc
  · intro p hp
    by_cases e : p = o
    · subst e
      exact ⟨fun h => absurd h hal, fun _ => hown⟩
    · obtain ⟨q, d4, d5, d6, d7, d8, d9, d10⟩ := hoth p hp e
      obtain ⟨r1, r2⟩ := hR.2.2.2 p hp
      rw [q 0, d4]
      refine ⟨r1, fun ha => ?_⟩
      obtain ⟨s4, s5, s6, s7, s8, s9, s10⟩ := r2 ha
      rw [d5, d6, d7, d8, d9, q 1, q 2, q 3, q 4, pa_so_cong b41 b42 b43 (q 1) (q 2)]
      exact ⟨s4, s5, s6, s7, s8, s9, fun s hs => by rw [d10 s hs, q (5 + s)]; exact s10 s hs⟩
def pu_new (I : Nat → Nat → Int32) (h o : Nat) (n : Int32) (g s b : Nat) : Nat → Nat → Int32 := up2 (pu_es (up2 (up2 (up2 (up2 (up2 (up2 (up2 I (h + 4) o (nI g)) (h + 5) o n) h 11 (n + nI 1)) (h + 6) o (nI b)) (h + 7) o (nI s)) (h + 8) o (nI 0)) (h + 9) o (nI 0)) (h + 10) (o * 8 + 0) (o * 8 + 8)) h 12 (I h 12 + nI 1)
set_option maxRecDepth 8192 in
theorem x4_addObject (hh : pm_hp h) (hR : ph_rep I h A) (w : pa_wf A) {o g s b : Nat} (ho : o < 40) (h0 : A o 0 = 0) (hm : ∀ p, p < o → A p 0 ≠ 0) : f_X4_addObject h (nI g) (nI s) (nI b) (pm I L r) = some (nI o, pm (pu_new I h o (nI (A 40 1)) g s b) L r) := by
  unfold f_X4_addObject
  simp (disch := omega) only [pbs, pO_h hh, pR_h_1 hh, pA_h_1 hh, pS_h_1 hh, pR_h_2 hh, pA_h_2 hh, pS_h_2 hh, pR_h_3 hh, pA_h_3 hh, pS_h_3 hh, pR_h_4 hh, pA_h_4 hh, pS_h_4 hh, pR_h_5 hh, pA_h_5 hh, pS_h_5 hh, pR_h_6 hh, pA_h_6 hh, pS_h_6 hh, pR_h_7 hh, pA_h_7 hh, pS_h_7 hh, pR_h_8 hh, pA_h_8 hh, pS_h_8 hh, pR_h_9 hh, pA_h_9 hh, pS_h_9 hh, pR_h_10 hh, pA_h_10 hh, pS_h_10 hh, pI_h_0 hh, pP_h_0 hh, pI_h_11 hh, pP_h_11 hh, pI_h_12 hh, pP_h_12 hh, plit, nI_add, pk_mul, pn_le, pn_lt, if_true, if_false, reduceIte, x4_free hh hR w ho h0 hm, nI_m1, up2_ne, up2_nj, up2_eq, hR.2.1, x4_empty hh ho, pu_es_ne]
  unfold pu_new
  simp only [nI_add]
set_option maxRecDepth 8192 in
theorem ph_new (hR : ph_rep I h A) (w : pa_wf A) {o g s b : Nat} (ho : o < 40) (hb : b = pa_so (pa_new A o g s) o) : ph_rep (pu_new I h o (nI (A 40 1)) g s b) h (pa_new A o g s) := by
  have e40 : (40 : Nat) ≠ o := by omega
  have e41 : (41 : Nat) ≠ o := by omega
  have e42 : (42 : Nat) ≠ o := by omega
  have e43 : (43 : Nat) ≠ o := by omega
  have hn1 := w.1.2.2.1
  have hown : ∀ k, pa_new A o g s o k = if k = 0 then A 40 1 else if k = 1 then g else if k = 2 then s else 0 := fun k => by simp [pa_new]
  unfold pu_new
  refine ph_one hR (o := o) ?_ ?_ ?_ ?_ ?_ ?_ ?_ ?_ ?_ ?_ ?_ ?_
  · simp (disch := omega) only [up2_ne, up2_nj, pu_es_ne]
  · intro c
    simp (disch := omega) only [up2_ne, up2_nj, pu_es_ne]
  · intro c
    simp (disch := omega) only [up2_ne, up2_nj, pu_es_ne]
  · intro c
    simp (disch := omega) only [up2_ne, up2_nj, pu_es_ne]
  · simp (disch := omega) only [up2_ne, up2_nj, pu_es_ne, up2_eq, nI_add]
    simp [pa_new, e40]
  · simp [pa_new, e40]
  · intro c
    simp [pa_new, e41]
  · intro c
    simp [pa_new, e42]
  · intro c
    simp [pa_new, e43]
  · intro p hp e
    refine ⟨fun k => ?_, ?_, ?_, ?_, ?_, ?_, ?_, ?_⟩
    · have : p ≠ 40 := by omega
      simp [pa_new, e, this]
    · simp (disch := omega) only [up2_ne, up2_nj, pu_es_ne]
    · simp (disch := omega) only [up2_ne, up2_nj, pu_es_ne]
    · simp (disch := omega) only [up2_ne, up2_nj, pu_es_ne]
    · simp (disch := omega) only [up2_ne, up2_nj, pu_es_ne]
    · simp (disch := omega) only [up2_ne, up2_nj, pu_es_ne]
    · simp (disch := omega) only [up2_ne, up2_nj, pu_es_ne]
    · intro s9 hs9
      simp (disch := omega) only [up2_ne, pu_es_out]
  · rw [hown]
    simp
    omega
  · refine ⟨?_, ?_, ?_, ?_, ?_, ?_, ?_⟩
    · simp (disch := omega) only [up2_ne, pu_es_ne, up2_eq, hown]
      simp
    · simp (disch := omega) only [up2_ne, pu_es_ne, up2_eq, hown]
      simp
    · simp (disch := omega) only [up2_ne, pu_es_ne, up2_eq, hb]
    · simp (disch := omega) only [up2_ne, pu_es_ne, up2_eq, hown]
      simp
    · simp (disch := omega) only [up2_ne, pu_es_ne, up2_eq, hown]
      simp
    · simp (disch := omega) only [up2_ne, pu_es_ne, up2_eq, hown]
      simp
    · intro s9 hs9
      have q0 : ¬ 5 + s9 = 0 := by omega
      have q1 : ¬ 5 + s9 = 1 := by omega
      have q2 : ¬ 5 + s9 = 2 := by omega
      simp (disch := omega) only [up2_ne, pu_es_in, hown, q0, q1, q2, if_false, mI_0]
set_option maxRecDepth 8192 in
theorem pu_new_fr {o g s b : Nat} {n : Int32} (a : Nat) (ha : a < h ∨ h + 10 < a) : pu_new I h o n g s b a = I a := by
  funext j
  unfold pu_new
  simp (disch := omega) only [up2_ne, pu_es_ne]
set_option maxRecDepth 8192 in
theorem pu_new_v {o g s b : Nat} {n : Int32} : pu_new I h o n g s b h 12 = I h 12 + nI 1 := by
  unfold pu_new
  rw [up2_eq]
set_option maxRecDepth 8192 in
theorem x4_putTarget (hh : pm_hp h) (hR : ph_rep I h A) (w : pa_wf A) {o s : Nat} {x : Int32} (ho : o < 40) (ha : A o 0 ≠ 0) (hs : s < A o 2) : f_X4_putTarget h (nI o) (nI s) x (pm I L r) = some (mI (A o (5 + s)), pm (up2 (up2 I (h + 10) (o * 8 + s) x) h 12 (I h 12 + nI 1)) L r) := by
  have h8 := pa_sl8 w ho ha
  have hsl := ((hR.2.2.2 o ho).2 ha).2.2.2.2.2.2 s (by omega)
  have e : pa_isS A (nI o) (nI s) = true := by
    unfold pa_isS
    rw [pn_at_nI (by decide) ho]
    show (pa_al A o && (pn_at (A o 2) (nI s)).isSome) = true
    rw [pn_at_nI (by omega) hs]
    simp [pa_al, ha]
  unfold f_X4_putTarget
  simp (disch := omega) only [pbs, pO_h hh, pR_h_1 hh, pA_h_1 hh, pS_h_1 hh, pR_h_2 hh, pA_h_2 hh, pS_h_2 hh, pR_h_3 hh, pA_h_3 hh, pS_h_3 hh, pR_h_4 hh, pA_h_4 hh, pS_h_4 hh, pR_h_5 hh, pA_h_5 hh, pS_h_5 hh, pR_h_6 hh, pA_h_6 hh, pS_h_6 hh, pR_h_7 hh, pA_h_7 hh, pS_h_7 hh, pR_h_8 hh, pA_h_8 hh, pS_h_8 hh, pR_h_9 hh, pA_h_9 hh, pS_h_9 hh, pR_h_10 hh, pA_h_10 hh, pS_h_10 hh, pI_h_0 hh, pP_h_0 hh, pI_h_11 hh, pP_h_11 hh, pI_h_12 hh, pP_h_12 hh, plit, nI_add, pk_mul, pn_le, pn_lt, if_true, if_false, reduceIte, x4_hasSlot hh hR w, e, bIn, hsl, up2_ne]
  rfl
set_option maxRecDepth 8192 in
theorem ph_set (hR : ph_rep I h A) {o s v : Nat} (x : Int32) (ho : o < 40) (ha : A o 0 ≠ 0) (hs : s < 8) : ph_rep (up2 (up2 I (h + 10) (o * 8 + s) (mI v)) h 12 x) h (up2 A o (5 + s) v) := by
  obtain ⟨s4, s5, s6, s7, s8, s9, s10⟩ := (hR.2.2.2 o ho).2 ha
  have b41 : ∀ c, up2 A o (5 + s) v 41 c = A 41 c := fun c => up2_ne (by omega)
  have b42 : ∀ c, up2 A o (5 + s) v 42 c = A 42 c := fun c => up2_ne (by omega)
  have b43 : ∀ c, up2 A o (5 + s) v 43 c = A 43 c := fun c => up2_ne (by omega)
  refine ph_one hR (o := o) ?_ ?_ ?_ ?_ ?_ (up2_ne (by omega)) b41 b42 b43 ?_ ?_ ?_
  · simp (disch := omega) only [up2_ne, up2_nj]
  · intro c
    simp (disch := omega) only [up2_ne, up2_nj]
  · intro c
    simp (disch := omega) only [up2_ne, up2_nj]
  · intro c
    simp (disch := omega) only [up2_ne, up2_nj]
  · simp (disch := omega) only [up2_ne, up2_nj]
    exact hR.2.1
  · intro p hp e
    refine ⟨fun k => up2_ne e, ?_, ?_, ?_, ?_, ?_, ?_, ?_⟩
    · simp (disch := omega) only [up2_ne, up2_nj]
    · simp (disch := omega) only [up2_ne, up2_nj]
    · simp (disch := omega) only [up2_ne, up2_nj]
    · simp (disch := omega) only [up2_ne, up2_nj]
    · simp (disch := omega) only [up2_ne, up2_nj]
    · simp (disch := omega) only [up2_ne, up2_nj]
    · intro q hq
      simp (disch := omega) only [up2_ne, up2_nj]
  · rw [up2_nj (by omega)]
    exact ha
  · rw [pa_so_cong b41 b42 b43 (up2_nj (by omega)) (up2_nj (by omega))]
    refine ⟨?_, ?_, ?_, ?_, ?_, ?_, ?_⟩
    · simp (disch := omega) only [up2_ne, up2_nj, s4]
    · simp (disch := omega) only [up2_ne, up2_nj, s5]
    · simp (disch := omega) only [up2_ne, up2_nj, s6]
    · simp (disch := omega) only [up2_ne, up2_nj, s7]
    · simp (disch := omega) only [up2_ne, up2_nj, s8]
    · simp (disch := omega) only [up2_ne, up2_nj, s9]
    · intro q hq
      by_cases e : q = s
      · subst e
        simp (disch := omega) only [up2_ne, up2_eq]
      · simp (disch := omega) only [up2_ne, up2_nj, s10 q hq]
set_option maxRecDepth 8192 in
theorem x4_putRoots (hh : pm_hp h) {o : Nat} {x : Int32} (ho : o < 40) : f_X4_putRoots h (nI o) x (pm I L r) = some (x, pm (up2 (up2 I (h + 9) o x) h 12 (I h 12 + nI 1)) L r) := by
  unfold f_X4_putRoots
  simp (disch := omega) only [pbs, pO_h hh, pR_h_1 hh, pA_h_1 hh, pS_h_1 hh, pR_h_2 hh, pA_h_2 hh, pS_h_2 hh, pR_h_3 hh, pA_h_3 hh, pS_h_3 hh, pR_h_4 hh, pA_h_4 hh, pS_h_4 hh, pR_h_5 hh, pA_h_5 hh, pS_h_5 hh, pR_h_6 hh, pA_h_6 hh, pS_h_6 hh, pR_h_7 hh, pA_h_7 hh, pS_h_7 hh, pR_h_8 hh, pA_h_8 hh, pS_h_8 hh, pR_h_9 hh, pA_h_9 hh, pS_h_9 hh, pR_h_10 hh, pA_h_10 hh, pS_h_10 hh, pI_h_0 hh, pP_h_0 hh, pI_h_11 hh, pP_h_11 hh, pI_h_12 hh, pP_h_12 hh, plit, nI_add, pk_mul, pn_le, pn_lt, if_true, if_false, reduceIte, up2_ne]
set_option maxRecDepth 8192 in
theorem ph_root (hR : ph_rep I h A) {o v : Nat} (x : Int32) (ho : o < 40) (ha : A o 0 ≠ 0) : ph_rep (up2 (up2 I (h + 9) o (nI v)) h 12 x) h (up2 A o 4 v) := by
  obtain ⟨s4, s5, s6, s7, s8, s9, s10⟩ := (hR.2.2.2 o ho).2 ha
  have b41 : ∀ c, up2 A o 4 v 41 c = A 41 c := fun c => up2_ne (by omega)
  have b42 : ∀ c, up2 A o 4 v 42 c = A 42 c := fun c => up2_ne (by omega)
  have b43 : ∀ c, up2 A o 4 v 43 c = A 43 c := fun c => up2_ne (by omega)
  refine ph_one hR (o := o) ?_ ?_ ?_ ?_ ?_ (up2_ne (by omega)) b41 b42 b43 ?_ ?_ ?_
  · simp (disch := omega) only [up2_ne, up2_nj]
  · intro c
    simp (disch := omega) only [up2_ne, up2_nj]
  · intro c
    simp (disch := omega) only [up2_ne, up2_nj]
  · intro c
    simp (disch := omega) only [up2_ne, up2_nj]
  · simp (disch := omega) only [up2_ne, up2_nj]
    exact hR.2.1
  · intro p hp e
    refine ⟨fun k => up2_ne e, ?_, ?_, ?_, ?_, ?_, ?_, ?_⟩
    · simp (disch := omega) only [up2_ne, up2_nj]
    · simp (disch := omega) only [up2_ne, up2_nj]
    · simp (disch := omega) only [up2_ne, up2_nj]
    · simp (disch := omega) only [up2_ne, up2_nj]
    · simp (disch := omega) only [up2_ne, up2_nj]
    · simp (disch := omega) only [up2_ne, up2_nj]
    · intro q hq
      simp (disch := omega) only [up2_ne, up2_nj]
  · rw [up2_nj (by omega)]
    exact ha
  · rw [pa_so_cong b41 b42 b43 (up2_nj (by omega)) (up2_nj (by omega))]
    refine ⟨?_, ?_, ?_, ?_, ?_, ?_, ?_⟩
    · simp (disch := omega) only [up2_ne, up2_nj, s4]
    · simp (disch := omega) only [up2_ne, up2_nj, s5]
    · simp (disch := omega) only [up2_ne, up2_nj, s6]
    · simp (disch := omega) only [up2_ne, up2_nj, s7]
    · simp (disch := omega) only [up2_ne, up2_nj, s8]
    · simp (disch := omega) only [up2_ne, up2_eq]
    · intro q hq
      simp (disch := omega) only [up2_ne, up2_nj, s10 q hq]
def pu_len (I : Nat → Nat → Int32) (h o n : Nat) : Nat → Nat → Int32 := up2 (pu_es (up2 (up2 I (h + 6) o (nI (pa_ru (16 + 4 * n)))) (h + 7) o (nI n)) (h + 10) (o * 8 + n) (o * 8 + 8)) h 12 (I h 12 + nI 1)
set_option maxRecDepth 8192 in
theorem x4_putLength (hh : pm_hp h) (hR : ph_rep I h A) {o n : Nat} (ho : o < 40) (ha : A o 0 ≠ 0) (hn : n ≤ 8) : f_X4_putLength h (nI o) (nI n) (pm I L r) = some (nI (A o 2), pm (pu_len I h o n) L r) := by
  obtain ⟨s4, s5, s6, s7, s8, s9, s10⟩ := (hR.2.2.2 o ho).2 ha
  unfold f_X4_putLength
  simp (disch := omega) only [pbs, pO_h hh, pR_h_1 hh, pA_h_1 hh, pS_h_1 hh, pR_h_2 hh, pA_h_2 hh, pS_h_2 hh, pR_h_3 hh, pA_h_3 hh, pS_h_3 hh, pR_h_4 hh, pA_h_4 hh, pS_h_4 hh, pR_h_5 hh, pA_h_5 hh, pS_h_5 hh, pR_h_6 hh, pA_h_6 hh, pS_h_6 hh, pR_h_7 hh, pA_h_7 hh, pS_h_7 hh, pR_h_8 hh, pA_h_8 hh, pS_h_8 hh, pR_h_9 hh, pA_h_9 hh, pS_h_9 hh, pR_h_10 hh, pA_h_10 hh, pS_h_10 hh, pI_h_0 hh, pP_h_0 hh, pI_h_11 hh, pP_h_11 hh, pI_h_12 hh, pP_h_12 hh, plit, nI_add, pk_mul, pn_le, pn_lt, if_true, if_false, reduceIte, s7, x4_sizeOfArray hn, x4_empty hh ho hn, pu_es_ne, up2_ne]
  rfl
set_option maxRecDepth 8192 in
theorem ph_len (hR : ph_rep I h A) {o n : Nat} (ho : o < 40) (ha : A o 0 ≠ 0) (hg : A o 1 = 10) (hn : n ≤ 8) : ph_rep (pu_len I h o n) h (pa_len A o n) := by
  obtain ⟨s4, s5, s6, s7, s8, s9, s10⟩ := (hR.2.2.2 o ho).2 ha
  have hoth : ∀ p k, p ≠ o → pa_len A o n p k = A p k := fun p k e => by simp [pa_len, e]
  have hown : ∀ k, pa_len A o n o k = if k = 2 then n else if 5 + n ≤ k then 0 else A o k := fun k => by simp [pa_len]
  unfold pu_len
  refine ph_one hR (o := o) ?_ ?_ ?_ ?_ ?_ (hoth 40 0 (by omega)) (fun c => hoth 41 c (by omega)) (fun c => hoth 42 c (by omega)) (fun c => hoth 43 c (by omega)) ?_ ?_ ?_
  · simp (disch := omega) only [up2_ne, up2_nj, pu_es_ne]
  · intro c
    simp (disch := omega) only [up2_ne, up2_nj, pu_es_ne]
  · intro c
    simp (disch := omega) only [up2_ne, up2_nj, pu_es_ne]
  · intro c
    simp (disch := omega) only [up2_ne, up2_nj, pu_es_ne]
  · simp (disch := omega) only [up2_ne, up2_nj, pu_es_ne, hoth]
    exact hR.2.1
  · intro p hp e
    refine ⟨fun k => hoth p k e, ?_, ?_, ?_, ?_, ?_, ?_, ?_⟩
    · simp (disch := omega) only [up2_ne, up2_nj, pu_es_ne]
    · simp (disch := omega) only [up2_ne, up2_nj, pu_es_ne]
    · simp (disch := omega) only [up2_ne, up2_nj, pu_es_ne]
    · simp (disch := omega) only [up2_ne, up2_nj, pu_es_ne]
    · simp (disch := omega) only [up2_ne, up2_nj, pu_es_ne]
    · simp (disch := omega) only [up2_ne, up2_nj, pu_es_ne]
    · intro q hq
      simp (disch := omega) only [up2_ne, pu_es_out]
  · rw [hown, if_neg (by omega), if_neg (by omega)]
    exact ha
  · have e1 : pa_len A o n o 1 = 10 := by rw [hown, if_neg (by omega), if_neg (by omega)]; exact hg
    have e2 : pa_len A o n o 2 = n := by rw [hown, if_pos rfl]
    have e0 : pa_len A o n o 0 = A o 0 := by rw [hown, if_neg (by omega), if_neg (by omega)]
    have e3 : pa_len A o n o 3 = A o 3 := by rw [hown, if_neg (by omega), if_neg (by omega)]
    have e4 : pa_len A o n o 4 = A o 4 := by rw [hown, if_neg (by omega), if_neg (by omega)]
    have es : pa_so (pa_len A o n) o = pa_ru (16 + 4 * n) := by
      unfold pa_so
      rw [e1, e2, if_neg (by decide), if_pos rfl]
    rw [es, e0, e1, e2, e3, e4]
    refine ⟨?_, ?_, ?_, ?_, ?_, ?_, ?_⟩
    · simp (disch := omega) only [up2_ne, pu_es_ne, s4, hg]
    · simp (disch := omega) only [up2_ne, pu_es_ne, s5]
    · simp (disch := omega) only [up2_ne, pu_es_ne, up2_eq]
    · simp (disch := omega) only [up2_ne, pu_es_ne, up2_eq]
    · simp (disch := omega) only [up2_ne, pu_es_ne, s8]
    · simp (disch := omega) only [up2_ne, pu_es_ne, s9]
    · intro q hq
      rw [hown, if_neg (by omega)]
      by_cases e : n ≤ q
      · rw [if_pos (by omega)]
        simp (disch := omega) only [up2_ne, pu_es_in, mI_0]
      · rw [if_neg (by omega)]
        simp (disch := omega) only [up2_ne, pu_es_out, s10 q hq]
def pu_cls (I : Nat → Nat → Int32) (h c : Nat) (x y z : Int32) : Nat → Nat → Int32 := up2 (up2 (up2 (up2 (up2 I (h + 1) c x) (h + 2) c y) (h + 3) c z) h 0 (nI (c + 1))) h 12 (I h 12 + nI 1)
set_option maxRecDepth 8192 in
theorem x4_addClass (hh : pm_hp h) (hR : ph_rep I h A) (w : pa_wf A) {c f d : Nat} (hc : c < A 40 0) (hlt : A 40 0 < 10) : f_X4_addClass h (nI c) (nI f) (nI d) (pm I L r) = some (nI (A 40 0), pm (pu_cls I h (A 40 0) (nI c) (nI (pa_fo A c + f)) (nI (pa_da A c + d))) L r) := by
  have hr := hR.2.2.1 c hc
  have hne : c ≠ A 40 0 := by omega
  unfold f_X4_addClass
  simp (disch := omega) only [pbs, pO_h hh, pR_h_1 hh, pA_h_1 hh, pS_h_1 hh, pR_h_2 hh, pA_h_2 hh, pS_h_2 hh, pR_h_3 hh, pA_h_3 hh, pS_h_3 hh, pR_h_4 hh, pA_h_4 hh, pS_h_4 hh, pR_h_5 hh, pA_h_5 hh, pS_h_5 hh, pR_h_6 hh, pA_h_6 hh, pS_h_6 hh, pR_h_7 hh, pA_h_7 hh, pS_h_7 hh, pR_h_8 hh, pA_h_8 hh, pS_h_8 hh, pR_h_9 hh, pA_h_9 hh, pS_h_9 hh, pR_h_10 hh, pA_h_10 hh, pS_h_10 hh, pI_h_0 hh, pP_h_0 hh, pI_h_11 hh, pP_h_11 hh, pI_h_12 hh, pP_h_12 hh, plit, nI_add, pk_mul, pn_le, pn_lt, if_true, if_false, reduceIte, hR.1, x4_hasClass hh hR w, pa_isC_nI w, bIn, hc, decide_true, Bool.true_eq_false, up2_ne, up2_nj, up2_eq, hr.2.1, hr.2.2]
  rw [if_neg (show ¬ 10 ≤ A 40 0 from by omega), mI_def, mI_s]
  rfl
set_option maxRecDepth 8192 in
theorem ph_cls (hR : ph_rep I h A) (w : pa_wf A) {c f d : Nat} (hc : c < A 40 0) (hlt : A 40 0 < 10) : ph_rep (pu_cls I h (A 40 0) (nI c) (nI (pa_fo A c + f)) (nI (pa_da A c + d))) h (pa_cls A c f d) := by
  have h40 : pa_cls A c f d 40 0 = A 40 0 + 1 := by simp [pa_cls]
  have h401 : pa_cls A c f d 40 1 = A 40 1 := by simp [pa_cls]
  unfold pu_cls
  refine ⟨?_, ?_, ?_, ?_⟩
  · simp (disch := omega) only [up2_ne, up2_nj, up2_eq, h40]
  · simp (disch := omega) only [up2_ne, up2_nj, h401]
    exact hR.2.1
  · intro j hj
    rw [h40] at hj
    by_cases e : j = A 40 0
    · subst e
      have h1 : pa_cls A c f d 41 (A 40 0) = c + 1 := by simp [pa_cls]
      have h2 := pa_s_clsN (f := f) (d := d) w hc hlt
      rw [h1, h2.1, h2.2, mI_s]
      refine ⟨?_, ?_, ?_⟩
      · simp (disch := omega) only [up2_ne, up2_eq]
      · simp (disch := omega) only [up2_ne, up2_eq]
      · simp (disch := omega) only [up2_ne, up2_eq]
    · have h1 : pa_cls A c f d 41 j = A 41 j := by simp [pa_cls, e]
      have hr := hR.2.2.1 j (by omega)
      rw [h1, pa_foC w (by omega), pa_daC w (by omega)]
      refine ⟨?_, ?_, ?_⟩
      · simp (disch := omega) only [up2_ne, up2_nj, hr.1]
      · simp (disch := omega) only [up2_ne, up2_nj, hr.2.1]
      · simp (disch := omega) only [up2_ne, up2_nj, hr.2.2]
  · intro o ho
    obtain ⟨r1, r2⟩ := hR.2.2.2 o ho
    rw [pa_cls_obj ho, pa_cls_obj ho, pa_cls_obj ho, pa_cls_obj ho, pa_cls_obj ho]
    constructor
    · intro e
      simp (disch := omega) only [up2_ne, r1 e]
    · intro e
      obtain ⟨s4, s5, s6, s7, s8, s9, s10⟩ := r2 e
      rw [pa_soC w ho e]
      refine ⟨?_, ?_, ?_, ?_, ?_, ?_, ?_⟩
      · simp (disch := omega) only [up2_ne, s4]
      · simp (disch := omega) only [up2_ne, s5]
      · simp (disch := omega) only [up2_ne, s6]
      · simp (disch := omega) only [up2_ne, s7]
      · simp (disch := omega) only [up2_ne, s8]
      · simp (disch := omega) only [up2_ne, s9]
      · intro s hs
        rw [pa_cls_obj ho]
        simp (disch := omega) only [up2_ne, s10 s hs]
end X4B
