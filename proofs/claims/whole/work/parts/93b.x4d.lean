/-! the class's heap: copies, what is removed, comparisons -/
def pu_cp (I : Nat → Nat → Int32) (h g : Nat) : Nat → Nat → Int32 := up2 (up2 (prow (prow (prow (prow (prow (prow (prow (prow (prow (prow (up2 I h 0 (I g 0)) (h + 1) 10 (I (g + 1))) (h + 2) 10 (I (g + 2))) (h + 3) 10 (I (g + 3))) (h + 4) 40 (I (g + 4))) (h + 5) 40 (I (g + 5))) (h + 6) 40 (I (g + 6))) (h + 7) 40 (I (g + 7))) (h + 8) 40 (I (g + 8))) (h + 9) 40 (I (g + 9))) (h + 10) 320 (I (g + 10))) h 11 (I g 11)) h 12 (I h 12 + nI 1)
set_option maxRecDepth 8192 in
theorem hp_Λ {h : Nat} (hh : pm_hp h) : pm_Λ[h + 1]? = some (0, 10) ∧ pm_Λ[h + 2]? = some (0, 10) ∧ pm_Λ[h + 3]? = some (0, 10) ∧ pm_Λ[h + 4]? = some (0, 40) ∧ pm_Λ[h + 5]? = some (0, 40) ∧ pm_Λ[h + 6]? = some (0, 40) ∧ pm_Λ[h + 7]? = some (0, 40) ∧ pm_Λ[h + 8]? = some (0, 40) ∧ pm_Λ[h + 9]? = some (0, 40) ∧ pm_Λ[h + 10]? = some (0, 320) := by
  rcases hh with e | e | e | e | e | e | e | e | e <;> subst e <;> exact ⟨rfl, rfl, rfl, rfl, rfl, rfl, rfl, rfl, rfl, rfl⟩
set_option maxRecDepth 8192 in
theorem prow_same {α : Type} {I : Nat → Nat → α} {a n : Nat} {f : Nat → α} (h : f n = I a n) : prow I a (n + 1) f = prow I a n f := by
  funext b j
  unfold prow
  by_cases e1 : b = a
  · by_cases e2 : j = n
    · rw [if_pos ⟨e1, by omega⟩, if_neg (by omega), e1, e2, h]
    · by_cases e3 : j < n
      · rw [if_pos ⟨e1, by omega⟩, if_pos ⟨e1, e3⟩]
      · rw [if_neg (by omega), if_neg (by omega)]
  · rw [if_neg (by omega), if_neg (by omega)]
section X4D
variable {I : Nat → Nat → Int32} {L : Nat → Nat → Int64} {r : Nat → Option Nat} {A B : Nat → Nat → Nat} {h g : Nat}
set_option maxRecDepth 8192 in
theorem x4_copyFrom (hh : pm_hp h) (hg : pm_hp g) (ne : h ≠ g) : f_X4_copyFrom h g (pm I L r) = some (pm (pu_cp I h g) L r) := by
  have hd := hp_dis hh hg ne
  obtain ⟨a1, a2, a3, a4, a5, a6, a7, a8, a9, a10⟩ := hp_Λ hh
  obtain ⟨b1, b2, b3, b4, b5, b6, b7, b8, b9, b10⟩ := hp_Λ hg
  unfold f_X4_copyFrom
  simp only [plit, pbs, pI_h_0 hg, pP_h_0 hh, pR_h_1 hg, pR_h_1 hh, pR_h_2 hg, pR_h_2 hh, pR_h_3 hg, pR_h_3 hh, pR_h_4 hg, pR_h_4 hh, pR_h_5 hg, pR_h_5 hh, pR_h_6 hg, pR_h_6 hh, pR_h_7 hg, pR_h_7 hh, pR_h_8 hg, pR_h_8 hh, pR_h_9 hg, pR_h_9 hh, pR_h_10 hg, pR_h_10 hh, pm_copy b1 a1 (by decide), pm_copy b2 a2 (by decide), pm_copy b3 a3 (by decide), pm_copy b4 a4 (by decide), pm_copy b5 a5 (by decide), pm_copy b6 a6 (by decide), pm_copy b7 a7 (by decide), pm_copy b8 a8 (by decide), pm_copy b9 a9 (by decide), pm_copy b10 a10 (by decide), pI_h_11 hg, pP_h_11 hh, pI_h_12 hh, pP_h_12 hh]
  simp (disch := omega) only [prow_a, up2_a, prow_ne, up2_ne, up2_nj]
  rfl
set_option maxRecDepth 8192 in
theorem ph_cp (hR : ph_rep I g B) (w : pa_wf B) (hd : h + 10 < g ∨ g + 10 < h) : ph_rep (pu_cp I h g) h B := by
  have h10 := pa_cc10 w
  unfold pu_cp
  refine ⟨?_, ?_, ?_, ?_⟩
  · simp (disch := omega) only [up2_ne, up2_nj, prow_ne, prow_in, up2_eq]
    exact hR.1
  · simp (disch := omega) only [up2_ne, up2_nj, prow_ne, prow_in, up2_eq]
    exact hR.2.1
  · intro c hc
    simp (disch := omega) only [up2_ne, up2_nj, prow_ne, prow_in, up2_eq]
    exact hR.2.2.1 c hc
  · intro o ho
    obtain ⟨r1, r2⟩ := hR.2.2.2 o ho
    simp (disch := omega) only [up2_ne, up2_nj, prow_ne, prow_in, up2_eq]
    refine ⟨r1, fun ha => ?_⟩
    obtain ⟨s4, s5, s6, s7, s8, s9, s10⟩ := r2 ha
    refine ⟨s4, s5, s6, s7, s8, s9, fun s hs => ?_⟩
    simp (disch := omega) only [up2_ne, up2_nj, prow_ne, prow_in, up2_eq]
    exact s10 s hs
set_option maxRecDepth 8192 in
theorem pu_cp_fr (a : Nat) (ha : a < h ∨ h + 10 < a) : pu_cp I h g a = I a := by
  unfold pu_cp
  simp (disch := omega) only [prow_a, up2_a]
set_option maxRecDepth 8192 in
theorem pu_cp_v : pu_cp I h g h 12 = I h 12 + nI 1 := by
  unfold pu_cp
  rw [up2_eq]
/-! one object grows -/
set_option maxRecDepth 8192 in
theorem x4_grow (hh : pm_hp h) {p : Nat → Bool} (w : pa_wf A) (hal : ∀ o, o < 40 → p o = true → A o 0 ≠ 0) (hg : ∀ t, t < 40 → (I (h + 4) t = -nI 1) = (p t = false)) {o : Nat} (ho : o < 40) (hp : p o = true) (h4 : I (h + 4) o = nI (A o 1)) (h8 : I (h + 8) o = nI (A o 3)) (h10 : ∀ s, s < 8 → I (h + 10) (o * 8 + s) = mI (A o (5 + s))) : ∃ J, f_X4_grow h (nI o) (pm I L r) = some (pm J L r) ∧ (∀ b j, (b ≠ h + 8 ∨ j ≠ o) → (b ≠ h + 10 ∨ j / 8 ≠ o) → J b j = I b j) ∧ J (h + 8) o = nI (pa_kp A p o 3) ∧ ∀ s, s < 8 → J (h + 10) (o * 8 + s) = mI (pa_kp A p o (5 + s)) := by
  have ha := hal o ho hp
  obtain ⟨hk, h99, -, hsl⟩ := w.2.2.2.1 o ho ha
  have hgr := pa_gr w ho ha
  have h5 := h10 0 (by decide)
  rw [Nat.add_zero, show 5 + 0 = 5 from rfl] at h5
  have hs0 := hsl 0 (by decide)
  have e3 : pa_kp A p o 3 = if A o 3 < 99 then A o 3 + 1 else A o 3 := by
    unfold pa_kp
    rw [if_pos ho, hp]
    simp [ha]
  have hage : (if 99 < A o 3 + 1 then nI 99 else nI (A o 3 + 1)) = nI (pa_kp A p o 3) := by
    rw [e3]
    by_cases e : A o 3 < 99
    · rw [if_neg (by omega), if_pos e]
    · rw [if_pos (by omega), if_neg e]
      congr 1
      omega
  have ekp : ∀ s, s < 8 → (A o 1 ≠ 11 ∨ A o 5 = 0 ∨ p (A o 5 - 1) = true) → pa_kp A p o (5 + s) = A o (5 + s) := by
    intro s hs hc
    unfold pa_kp
    rw [if_pos ho, hp]
    simp only [Bool.true_eq_false, if_false, ha, show ¬ 5 + s = 3 from by omega]
    rw [if_neg]
    rintro ⟨c1, c2, c3, c4⟩
    rcases hc with hc | hc | hc
    · exact hc c1
    · exact c3 hc
    · rw [hc] at c4
      cases c4
  unfold f_X4_grow
  simp (disch := omega) only [pbs, pO_h hh, pR_h_1 hh, pA_h_1 hh, pS_h_1 hh, pR_h_2 hh, pA_h_2 hh, pS_h_2 hh, pR_h_3 hh, pA_h_3 hh, pS_h_3 hh, pR_h_4 hh, pA_h_4 hh, pS_h_4 hh, pR_h_5 hh, pA_h_5 hh, pS_h_5 hh, pR_h_6 hh, pA_h_6 hh, pS_h_6 hh, pR_h_7 hh, pA_h_7 hh, pS_h_7 hh, pR_h_8 hh, pA_h_8 hh, pS_h_8 hh, pR_h_9 hh, pA_h_9 hh, pS_h_9 hh, pR_h_10 hh, pA_h_10 hh, pS_h_10 hh, pI_h_0 hh, pP_h_0 hh, pI_h_11 hh, pP_h_11 hh, pI_h_12 hh, pP_h_12 hh, plit, nI_add, pk_mul, pn_le, pn_lt, if_true, if_false, reduceIte, h8, hage, up2_ne, h4, pn_eq]
  by_cases e : A o 1 = 11
  · have h8' : I (h + 10) (o * 8) = mI (A o 5) := h5
    have h82 : A o 2 = 1 := by
      have := pa_cc10 w
      omega
    have hz : ∀ s, s < 8 → s ≠ 0 → A o (5 + s) = 0 := fun s hs hne => (hsl s hs).1 (by omega)
    rw [if_pos e]
    simp (disch := omega) only [pbs, pO_h hh, pR_h_1 hh, pA_h_1 hh, pS_h_1 hh, pR_h_2 hh, pA_h_2 hh, pS_h_2 hh, pR_h_3 hh, pA_h_3 hh, pS_h_3 hh, pR_h_4 hh, pA_h_4 hh, pS_h_4 hh, pR_h_5 hh, pA_h_5 hh, pS_h_5 hh, pR_h_6 hh, pA_h_6 hh, pS_h_6 hh, pR_h_7 hh, pA_h_7 hh, pS_h_7 hh, pR_h_8 hh, pA_h_8 hh, pS_h_8 hh, pR_h_9 hh, pA_h_9 hh, pS_h_9 hh, pR_h_10 hh, pA_h_10 hh, pS_h_10 hh, pI_h_0 hh, pP_h_0 hh, pI_h_11 hh, pP_h_11 hh, pI_h_12 hh, pP_h_12 hh, plit, nI_add, pk_mul, pn_le, pn_lt, if_true, if_false, reduceIte, up2_ne, h8']
    have hho : f_X4_hasObject h (mI (A o 5)) (pm (up2 I (h + 8) o (nI (pa_kp A p o 3))) L r) = some (bI (decide (A o 5 ≠ 0) && p (A o 5 - 1)), pm (up2 I (h + 8) o (nI (pa_kp A p o 3))) L r) := by
      unfold f_X4_hasObject
      by_cases e0 : A o 5 = 0
      · rw [e0, mI_0, if_pos (by decide)]
        rfl
      · obtain ⟨t, ht⟩ : ∃ t, A o 5 = t + 1 := ⟨A o 5 - 1, by omega⟩
        have ht40 : t < 40 := by
          have := hs0.2.1
          rw [show 5 + 0 = 5 from rfl] at this
          omega
        rw [ht, mI_s]
        simp (disch := omega) only [pbs, pO_h hh, pR_h_1 hh, pA_h_1 hh, pS_h_1 hh, pR_h_2 hh, pA_h_2 hh, pS_h_2 hh, pR_h_3 hh, pA_h_3 hh, pS_h_3 hh, pR_h_4 hh, pA_h_4 hh, pS_h_4 hh, pR_h_5 hh, pA_h_5 hh, pS_h_5 hh, pR_h_6 hh, pA_h_6 hh, pS_h_6 hh, pR_h_7 hh, pA_h_7 hh, pS_h_7 hh, pR_h_8 hh, pA_h_8 hh, pS_h_8 hh, pR_h_9 hh, pA_h_9 hh, pS_h_9 hh, pR_h_10 hh, pA_h_10 hh, pS_h_10 hh, pI_h_0 hh, pP_h_0 hh, pI_h_11 hh, pP_h_11 hh, pI_h_12 hh, pP_h_12 hh, plit, nI_add, pk_mul, pn_le, pn_lt, if_true, if_false, reduceIte, pn_lt0, up2_ne, hg t ht40]
        rw [if_neg (show ¬ 40 ≤ t from by omega)]
        have hb : (decide (t + 1 ≠ 0) && p (t + 1 - 1)) = p t := by simp
        rw [hb]
        cases p t <;> rfl
    rw [hho]
    simp only [pbs, bIn]
    by_cases e0 : A o 5 = 0
    · have hb : (decide (A o 5 ≠ 0) && p (A o 5 - 1)) = false := by simp [e0]
      rw [hb, if_pos rfl]
      simp only [plit, x4_empty hh ho (show 0 ≤ 8 from by decide), pbs, pO_h hh]
      refine ⟨_, rfl, ?_, ?_, ?_⟩
      · intro b j c1 c2
        unfold pu_es
        rw [if_neg (by omega)]
        unfold up2
        rw [if_neg (by omega)]
      · rw [pu_es_ne (by omega), up2_eq]
      · intro s hs
        rw [pu_es_in (by omega) (by omega), ekp s hs (Or.inr (Or.inl e0))]
        by_cases es : s = 0
        · subst es
          rw [show 5 + 0 = 5 from rfl, e0, mI_0]
        · rw [hz s hs es, mI_0]
    · cases e1 : p (A o 5 - 1)
      · have hb : (decide (A o 5 ≠ 0) && false) = false := by simp
        rw [hb, if_pos rfl]
        simp only [plit, x4_empty hh ho (show 0 ≤ 8 from by decide), pbs, pO_h hh]
        refine ⟨_, rfl, ?_, ?_, ?_⟩
        · intro b j c1 c2
          unfold pu_es
          rw [if_neg (by omega)]
          unfold up2
          rw [if_neg (by omega)]
        · rw [pu_es_ne (by omega), up2_eq]
        · intro s hs
          rw [pu_es_in (by omega) (by omega)]
          have : pa_kp A p o (5 + s) = 0 := by
            unfold pa_kp
            rw [if_pos ho, hp]
            simp only [Bool.true_eq_false, if_false, ha, show ¬ 5 + s = 3 from by omega]
            by_cases es : s = 0
            · subst es
              rw [if_pos ⟨e, rfl, e0, e1⟩]
            · rw [if_neg (by omega), hz s hs es]
          rw [this, mI_0]
      · have hb : (decide (A o 5 ≠ 0) && true) = true := by simp [e0]
        rw [hb, if_neg (by decide)]
        refine ⟨_, rfl, ?_, up2_eq, ?_⟩
        · intro b j c1 c2
          unfold up2
          rw [if_neg (by omega)]
        · intro s hs
          rw [up2_ne (by omega), h10 s hs, ekp s hs (Or.inr (Or.inr e1))]
  · rw [if_neg e]
    refine ⟨_, rfl, ?_, up2_eq, ?_⟩
    · intro b j c1 c2
      unfold up2
      rw [if_neg (by omega)]
    · intro s hs
      rw [up2_ne (by omega), h10 s hs, ekp s hs (Or.inl e)]
set_option maxRecDepth 8192 in
theorem x4_removeAllBut (hh : pm_hp h) (hR : ph_rep I h A) (w : pa_wf A) {p : Nat → Bool} (hal : ∀ o, o < 40 → p o = true → A o 0 ≠ 0) : ∃ J, f_X4_removeAllBut h (hb_mk p) (pm I L r) = some (nI (fb_sm (fun o => if pa_al A o && !p o then pa_so A o else 0) 40), pm J L r) ∧ ph_rep J h (pa_kp A p) ∧ J h 12 = I h 12 + nI 1 ∧ ∀ a, (a < h ∨ h + 10 < a) → J a = I a := by
  have hr40 : ∀ a k, 40 ≤ a → pa_kp A p a k = A a k := fun a k ha => by
    have : ¬ a < 40 := by omega
    simp [pa_kp, this]
  have hk0 : ∀ o k, o < 40 → p o = true → k ≠ 3 → k < 5 → pa_kp A p o k = A o k := fun o k ho hp h3 h5 => by
    unfold pa_kp
    rw [if_pos ho, hp]
    simp only [Bool.true_eq_false, if_false]
    by_cases e : A o 0 = 0
    · simp [e]
    · rw [if_neg e, if_neg h3, if_neg (by omega)]
  have hkn : ∀ o, o < 40 → p o = false → pa_kp A p o 0 = 0 := fun o ho hp => by
    unfold pa_kp
    rw [if_pos ho, hp]
    simp
  obtain ⟨z, hz⟩ : ∃ z : Int32, z = nI (fb_sm (fun o => if pa_al A o && !p o then pa_so A o else 0) 40) := ⟨_, rfl⟩
  rw [← hz]
  -- the second loop
  have h2 : ∀ K : Nat → Nat → Int32, (∀ t, t < 40 → (K (h + 4) t = -nI 1) = (p t = false)) → (∀ a, a ≠ h + 4 → K a = I a) → (∀ o, o < 40 → p o = true → K (h + 4) o = nI (A o 1)) → pw_w (f_X4_removeAllBut_b51 hb_FU h z (nI 0) (pm K L r)) (fun s => ∃ J, s = (z, pm J L r) ∧ ph_rep J h (pa_kp A p) ∧ J h 12 = I h 12 + nI 1 ∧ ∀ a, (a < h ∨ h + 10 < a) → J a = I a) := by
    intro K k1 k2 k3
    refine pm_for (fun n (J : Nat → Nat → Int32) i => f_X4_removeAllBut_b51 n h z (nI i) (pm J L r)) (fun i J => (∀ a, a ≠ h + 8 → a ≠ h + 10 → J a = K a) ∧ (∀ o, o < 40 → p o = true → J (h + 8) o = nI (if o < i then pa_kp A p o 3 else A o 3) ∧ ∀ s, s < 8 → J (h + 10) (o * 8 + s) = mI (if o < i then pa_kp A p o (5 + s) else A o (5 + s)))) (fun s => ∃ J, s = (z, pm J L r) ∧ ph_rep J h (pa_kp A p) ∧ J h 12 = I h 12 + nI 1 ∧ ∀ a, (a < h ∨ h + 10 < a) → J a = I a) 40 ?_ ?_ hb_FU 0 K (by decide) (by decide) ⟨fun _ _ _ => rfl, ?_⟩
    · rintro n J i hi ⟨j1, j2⟩
      right
      have e4 : J (h + 4) i = K (h + 4) i := by rw [j1 (h + 4) (by omega) (by omega)]
      cases hp : p i
      · refine ⟨J, ?_, j1, fun o ho hpo => ?_⟩
        · simp (disch := omega) only [f_X4_removeAllBut_b51, f_X4_removeAllBut_b75, pbs, pO_h hh, pR_h_1 hh, pA_h_1 hh, pS_h_1 hh, pR_h_2 hh, pA_h_2 hh, pS_h_2 hh, pR_h_3 hh, pA_h_3 hh, pS_h_3 hh, pR_h_4 hh, pA_h_4 hh, pS_h_4 hh, pR_h_5 hh, pA_h_5 hh, pS_h_5 hh, pR_h_6 hh, pA_h_6 hh, pS_h_6 hh, pR_h_7 hh, pA_h_7 hh, pS_h_7 hh, pR_h_8 hh, pA_h_8 hh, pS_h_8 hh, pR_h_9 hh, pA_h_9 hh, pS_h_9 hh, pR_h_10 hh, pA_h_10 hh, pS_h_10 hh, pI_h_0 hh, pP_h_0 hh, pI_h_11 hh, pP_h_11 hh, pI_h_12 hh, pP_h_12 hh, plit, nI_add, pk_mul, pn_le, pn_lt, if_true, if_false, reduceIte, e4, k1 i hi, hp]
          rw [if_neg (show ¬ 40 ≤ i from by omega)]
        · have hne : o ≠ i := fun e => by rw [e, hp] at hpo; cases hpo
          have he : (o < i + 1) = (o < i) := propext ⟨fun _ => by omega, fun _ => by omega⟩
          simp only [he]
          exact j2 o ho hpo
      · have hj := j2 i hi hp
        obtain ⟨J2, g1, g2, g3, g4⟩ := x4_grow (I := J) (L := L) (r := r) hh w hal (fun t ht => by rw [j1 (h + 4) (by omega) (by omega)]; exact k1 t ht) hi hp (by rw [e4]; exact k3 i hi hp) (by have := hj.1; rw [if_neg (Nat.lt_irrefl i)] at this; exact this) (fun s hs => by have := hj.2 s hs; rw [if_neg (Nat.lt_irrefl i)] at this; exact this)
        refine ⟨J2, ?_, ?_, fun o ho hpo => ?_⟩
        · simp (disch := omega) only [f_X4_removeAllBut_b51, f_X4_removeAllBut_b75, pbs, pO_h hh, pR_h_1 hh, pA_h_1 hh, pS_h_1 hh, pR_h_2 hh, pA_h_2 hh, pS_h_2 hh, pR_h_3 hh, pA_h_3 hh, pS_h_3 hh, pR_h_4 hh, pA_h_4 hh, pS_h_4 hh, pR_h_5 hh, pA_h_5 hh, pS_h_5 hh, pR_h_6 hh, pA_h_6 hh, pS_h_6 hh, pR_h_7 hh, pA_h_7 hh, pS_h_7 hh, pR_h_8 hh, pA_h_8 hh, pS_h_8 hh, pR_h_9 hh, pA_h_9 hh, pS_h_9 hh, pR_h_10 hh, pA_h_10 hh, pS_h_10 hh, pI_h_0 hh, pP_h_0 hh, pI_h_11 hh, pP_h_11 hh, pI_h_12 hh, pP_h_12 hh, plit, nI_add, pk_mul, pn_le, pn_lt, if_true, if_false, reduceIte, e4, k1 i hi, hp, Bool.true_eq_false, g1]
          rw [if_neg (show ¬ 40 ≤ i from by omega)]
        · intro a c1 c2
          rw [← j1 a c1 c2]
          funext j
          exact g2 a j (Or.inl c1) (Or.inl c2)
        · by_cases e : o = i
          · subst e
            rw [if_pos (by omega)]
            refine ⟨g3, fun s hs => ?_⟩
            rw [if_pos (by omega)]
            exact g4 s hs
          · have he : (o < i + 1) = (o < i) := propext ⟨fun _ => by omega, fun _ => by omega⟩
            simp only [he]
            rw [g2 (h + 8) o (Or.inr e) (Or.inl (by omega))]
            refine ⟨(j2 o ho hpo).1, fun s hs => ?_⟩
            rw [g2 (h + 10) (o * 8 + s) (Or.inl (by omega)) (Or.inr (by omega))]
            exact (j2 o ho hpo).2 s hs
    · rintro n J ⟨j1, j2⟩
      have e12 : J h 12 = I h 12 := by rw [j1 h (by omega) (by omega), k2 h (by omega)]
      simp (disch := omega) only [f_X4_removeAllBut_b51, pbs, pO_h hh, pR_h_1 hh, pA_h_1 hh, pS_h_1 hh, pR_h_2 hh, pA_h_2 hh, pS_h_2 hh, pR_h_3 hh, pA_h_3 hh, pS_h_3 hh, pR_h_4 hh, pA_h_4 hh, pS_h_4 hh, pR_h_5 hh, pA_h_5 hh, pS_h_5 hh, pR_h_6 hh, pA_h_6 hh, pS_h_6 hh, pR_h_7 hh, pA_h_7 hh, pS_h_7 hh, pR_h_8 hh, pA_h_8 hh, pS_h_8 hh, pR_h_9 hh, pA_h_9 hh, pS_h_9 hh, pR_h_10 hh, pA_h_10 hh, pS_h_10 hh, pI_h_0 hh, pP_h_0 hh, pI_h_11 hh, pP_h_11 hh, pI_h_12 hh, pP_h_12 hh, plit, nI_add, pk_mul, pn_le, pn_lt, if_true, if_false, reduceIte, Nat.le_refl, e12]
      have hr4 : ∀ a, a ≠ h + 4 → a ≠ h + 8 → a ≠ h + 10 → J a = I a := fun a c1 c2 c3 => by rw [j1 a c2 c3, k2 a c1]
      refine hw_some.mpr ⟨_, rfl, ?_, up2_eq, fun a ha => by rw [up2_a (by omega)]; exact hr4 a (by omega) (by omega) (by omega)⟩
      refine ⟨?_, ?_, ?_, ?_⟩
      · rw [up2_nj (by decide), hr4 h (by omega) (by omega) (by omega), hr40 40 0 (by decide)]
        exact hR.1
      · rw [up2_nj (by decide), hr4 h (by omega) (by omega) (by omega), hr40 40 1 (by decide)]
        exact hR.2.1
      · intro c hc
        rw [hr40 40 0 (by decide)] at hc
        rw [up2_a (by omega), up2_a (by omega), up2_a (by omega), hr4 (h + 1) (by omega) (by omega) (by omega), hr4 (h + 2) (by omega) (by omega) (by omega), hr4 (h + 3) (by omega) (by omega) (by omega), hr40 41 c (by decide), pa_fo_cong (fun c => hr40 41 c (by decide)) (fun c => hr40 42 c (by decide)), pa_da_cong (fun c => hr40 41 c (by decide)) (fun c => hr40 43 c (by decide))]
        exact hR.2.2.1 c hc
      · intro o ho
        rw [up2_a (by omega), up2_a (by omega), up2_a (by omega), up2_a (by omega), up2_a (by omega), up2_a (by omega), up2_a (by omega), j1 (h + 4) (by omega) (by omega), hr4 (h + 5) (by omega) (by omega) (by omega), hr4 (h + 6) (by omega) (by omega) (by omega), hr4 (h + 7) (by omega) (by omega) (by omega), hr4 (h + 9) (by omega) (by omega) (by omega)]
        cases hp : p o
        · refine ⟨fun _ => by rw [k1 o ho, hp], fun hne => absurd (hkn o ho hp) hne⟩
        · have ha := hal o ho hp
          obtain ⟨s4, s5, s6, s7, s8, s9, s10⟩ := (hR.2.2.2 o ho).2 ha
          rw [hk0 o 0 ho hp (by decide) (by decide), hk0 o 1 ho hp (by decide) (by decide), hk0 o 2 ho hp (by decide) (by decide), hk0 o 4 ho hp (by decide) (by decide), pa_so_cong (fun c => hr40 41 c (by decide)) (fun c => hr40 42 c (by decide)) (fun c => hr40 43 c (by decide)) (hk0 o 1 ho hp (by decide) (by decide)) (hk0 o 2 ho hp (by decide) (by decide))]
          have hj := j2 o ho hp
          rw [if_pos ho] at hj
          refine ⟨fun e => absurd e ha, fun _ => ⟨k3 o ho hp, s5, s6, s7, hj.1, s9, fun s hs => ?_⟩⟩
          have := hj.2 s hs
          rw [if_pos ho] at this
          exact this
    · intro o ho hp
      obtain ⟨s4, s5, s6, s7, s8, s9, s10⟩ := (hR.2.2.2 o ho).2 (hal o ho hp)
      rw [k2 (h + 8) (by omega), k2 (h + 10) (by omega), if_neg (Nat.not_lt_zero o)]
      refine ⟨s8, fun s hs => ?_⟩
      rw [if_neg (Nat.not_lt_zero o)]
      exact s10 s hs
  -- the first loop
  have hg4 : ∀ t, t < 40 → (prow I (h + 4) 40 (fun j => if p j = true then I (h + 4) j else -nI 1) (h + 4) t = -nI 1) = (p t = false) := by
    intro t ht
    rw [prow_in ht]
    cases hp : p t
    · simp
    · simp only [if_true, Bool.true_eq_false]
      rw [x4_grp hR w ht]
      exact eq_false (hal t ht hp)
  obtain ⟨b, hb1, J, hb2, hb3, hb4, hb5⟩ := h2 (prow I (h + 4) 40 (fun j => if p j = true then I (h + 4) j else -nI 1)) hg4 (fun a ha => prow_a ha) (fun o ho hp => by
    rw [prow_in ho, if_pos hp]
    exact ((hR.2.2.2 o ho).2 (hal o ho hp)).1)
  refine ⟨J, ?_, hb3, hb4, hb5⟩
  rw [← hb2, ← hb1]
  have h1 := pm_seq (fun n (a : Nat → Nat → Int32) i => f_X4_removeAllBut_b18 n h (hb_mk p) z (nI i) (pm a L r)) (fun i => prow I (h + 4) i (fun j => if p j = true then I (h + 4) j else -nI 1)) 40 (out := f_X4_removeAllBut_b51 hb_FU h z (nI 0) (pm (prow I (h + 4) 40 (fun j => if p j = true then I (h + 4) j else -nI 1)) L r)) (by
    intro n i hi
    simp (disch := omega) only [f_X4_removeAllBut_b18, f_X4_removeAllBut_b42, pbs, pO_h hh, pR_h_1 hh, pA_h_1 hh, pS_h_1 hh, pR_h_2 hh, pA_h_2 hh, pS_h_2 hh, pR_h_3 hh, pA_h_3 hh, pS_h_3 hh, pR_h_4 hh, pA_h_4 hh, pS_h_4 hh, pR_h_5 hh, pA_h_5 hh, pS_h_5 hh, pR_h_6 hh, pA_h_6 hh, pS_h_6 hh, pR_h_7 hh, pA_h_7 hh, pS_h_7 hh, pR_h_8 hh, pA_h_8 hh, pS_h_8 hh, pR_h_9 hh, pA_h_9 hh, pS_h_9 hh, pR_h_10 hh, pA_h_10 hh, pS_h_10 hh, pI_h_0 hh, pP_h_0 hh, pI_h_11 hh, pP_h_11 hh, pI_h_12 hh, pP_h_12 hh, plit, nI_add, pk_mul, pn_le, pn_lt, if_true, if_false, reduceIte, x8_containsN hi, bIn]
    rw [if_neg (show ¬ 40 ≤ i from by omega)]
    cases hp : p i
    · simp only [if_true]
      rw [← prow_up I (h + 4) i]
      simp only [hp, Bool.false_eq_true, if_false]
    · simp only [Bool.true_eq_false, if_false]
      rw [prow_same (by simp [hp])]) (by
    intro n
    rw [f_X4_removeAllBut_b18, if_pos (by decide)]
    rfl) hb_FU (by decide)
  simp only [prow_0] at h1
  rw [← h1]
  unfold f_X4_removeAllBut
  simp only [pbs, pO_h hh, pR_h_1 hh, pA_h_1 hh, pS_h_1 hh, pR_h_2 hh, pA_h_2 hh, pS_h_2 hh, pR_h_3 hh, pA_h_3 hh, pS_h_3 hh, pR_h_4 hh, pA_h_4 hh, pS_h_4 hh, pR_h_5 hh, pA_h_5 hh, pS_h_5 hh, pR_h_6 hh, pA_h_6 hh, pS_h_6 hh, pR_h_7 hh, pA_h_7 hh, pS_h_7 hh, pR_h_8 hh, pA_h_8 hh, pS_h_8 hh, pR_h_9 hh, pA_h_9 hh, pS_h_9 hh, pR_h_10 hh, pA_h_10 hh, pS_h_10 hh, pI_h_0 hh, pP_h_0 hh, pI_h_11 hh, pP_h_11 hh, pI_h_12 hh, pP_h_12 hh, plit, nI_add, pk_mul, pn_le, pn_lt, if_true, if_false, reduceIte, x4_allObjects hh hR w, pb_anot]
  rw [x4_sizeOfAll hh hR (fun j => pa_al A j && !p j) (fun o _ ho => by
    simp only [Bool.and_eq_true, pa_al, decide_eq_true_eq] at ho
    exact ho.1), ← hz]
  simp only [pbs]
end X4D
