/-! commands: one is done, on both sides -/
section CMD6
variable {I J : Nat → Nat → Int32} {L K : Nat → Nat → Int64} {r : Nat → Option Nat} {A : Nat → Nat → Nat} {n : Nat} {H : Nat → Nat → Nat → Nat} {t : Nat} {T : Nat → Nat} {P : Nat → Nat → Nat → Nat} {k : Nat → Bool} {B : Nat}
set_option maxRecDepth 8192 in
theorem x1_problem (hC : ph_rep I 1 A) (w : pa_wf A) {i p : Nat} (hi : i < 100) (hT : ∀ j, j < t → T j < 128) (hp : p < t) (hm : cmS t T p (I 101 i) (I 102 i) (I 103 i) (I 104 i)) : f_X1_problemOfCommand 100 (nI i) (pm I L r) = some (nI (cR t T A p), pm I L r) := by
  have hTp := hT p hp
  obtain ⟨m1, m2, m3, m4⟩ := hm
  unfold f_X1_problemOfCommand cR
  simp (disch := omega) only [plit, pR_100_3, pbs, pA_101 hi, m1, pn_eq]
  by_cases x1 : T p = 43
  · rw [if_pos x1, if_pos x1]
    simp (disch := omega) only [pR_100_0, pR_100_4, pR_100_5, pbs, pA_102 hi, pA_103 hi, m2 (by omega) (by omega), m3 (by omega), pO_h hp_1, x4_pRoot hp_1 hC w]
  rw [if_neg x1, if_neg x1]
  by_cases x2 : T p = 45
  · rw [if_pos x2, if_pos x2]
    simp (disch := omega) only [pR_100_0, pR_100_4, pR_100_5, pbs, pA_102 hi, pA_103 hi, m2 (by omega) (by omega), m3 (by omega), pO_h hp_1, x4_pUnroot hp_1 hC w]
  rw [if_neg x2, if_neg x2]
  by_cases x3 : T p = 97
  · rw [if_pos x3, if_pos x3]
    simp (disch := omega) only [pR_100_0, pR_100_4, pbs, pA_102 hi, m2 (by omega) (by omega), pO_h hp_1, x4_pArray hp_1 hC w]
  rw [if_neg x3, if_neg x3]
  by_cases x4 : T p = 110
  · rw [if_pos x4, if_pos x4]
    simp (disch := omega) only [pR_100_0, pR_100_4, pbs, pA_102 hi, m2 (by omega) (by omega), pO_h hp_1, x4_pInstance hp_1 hC w]
  rw [if_neg x4, if_neg x4]
  by_cases x5 : T p = 115
  · rw [if_pos x5, if_pos x5]
    simp (disch := omega) only [pR_100_0, pR_100_4, pR_100_5, pR_100_6, pbs, pA_102 hi, pA_103 hi, pA_104 hi, m2 (by omega) (by omega), m3 (by omega), m4 x5, pO_h hp_1, x4_pTarget hp_1 hC w]
  rw [if_neg x5, if_neg x5]
  by_cases x6 : T p = 119
  · rw [if_pos x6, if_pos x6]
    simp (disch := omega) only [pR_100_0, pbs, pO_h hp_1, x4_pHolder hp_1 hC w]
  rw [if_neg x6, if_neg x6]
set_option maxRecDepth 8192 in
theorem pz_full_ct (h : pz_full A = 0) : fb_ct (pa_al A) 40 < 40 := by
  unfold pz_full at h
  split at h
  · assumption
  · cases h
/-! the class does one -/
set_option maxRecDepth 8192 in
theorem x1_runOne (hC : cS I L r A n H t T P k B) (hA : aS A n H t T P k B) {i p : Nat} (hi : i < 100) (hp : p < t) (hm : cmS t T p (I 101 i) (I 102 i) (I 103 i) (I 104 i)) (h0 : cR t T A p = 0) : ∃ J K, f_X1_runOne 100 (nI i) (pm I L r) = some (pm J K r) ∧ cS J K r (cA t T A p) n H t T P k (B + 1) ∧ ∀ a, 28 < a → J a = I a ∧ K a = L a := by
  have hT := hA.2.2.2.2.2.2.1
  have hB := hA.1
  have w := hA.2.1
  have hR := hC.1
  have hTp := hT p hp
  obtain ⟨b1, b2, b3⟩ := cX_lt hT p
  obtain ⟨m1, m2, m3, m4⟩ := hm
  have hun : f_X1_runOne 100 (nI i) (pm I L r) = (if T p = 43 then (hb_iald (pm I L r) (1 + 9) (I 102 i)).bind fun r11 => (f_X4_putRoots 1 (I 102 i) (r11 ||| (nI 1 <<< (I 103 i &&& nI 31))) (pm I L r)).bind fun r12 => some r12.2 else if T p = 45 then (hb_iald (pm I L r) (1 + 9) (I 102 i)).bind fun r11 => (f_X4_putRoots 1 (I 102 i) (r11 &&& ((nI 1 <<< (I 103 i &&& nI 31)) ^^^ (-nI 1))) (pm I L r)).bind fun r12 => some r12.2 else if T p = 97 then (f_X4_addArray 1 (I 102 i) (pm I L r)).bind fun r21 => some r21.2 else if T p = 110 then (f_X4_addInstance 1 (I 102 i) (pm I L r)).bind fun r24 => some r24.2 else if T p = 115 then (f_X4_putTarget 1 (I 102 i) (I 103 i) (I 104 i) (pm I L r)).bind fun r29 => some r29.2 else if T p = 119 then (f_X4_addHolder 1 (pm I L r)).bind fun r32 => some r32.2 else (f_X0_removeGarbage 12 (pm I L r)).bind fun r34 => some r34.2) := by
    unfold f_X1_runOne
    simp (maxSteps := 2000000) (disch := omega) only [plit, pR_100_0, pR_100_1, pR_100_3, pR_100_4, pR_100_5, pR_100_6, pbs, pA_101 hi, pA_102 hi, pA_103 hi, pA_104 hi, m1, pn_eq, pR_h_9 hp_1, pO_h hp_1, pO_12]
  rw [hun]
  unfold cA
  unfold cR at h0
  by_cases x1 : T p = 43
  · rw [if_pos x1] at h0 ⊢
    rw [if_pos x1]
    rw [m2 (by omega) (by omega), m3 (by omega)]
    obtain ⟨o, q, ho, ha, hq, hx, hy⟩ := pz_root_ex h0
    rw [nI_eq (by omega) (by omega)] at hx hy
    rw [hx, hy]
    have h7 : A o 4 ≤ 7 := (w.2.2.2.1 o ho ha).2.2.1
    obtain ⟨c1, c2⟩ := pk_or h7 hq
    simp only [plit] at c1
    have h9 : I (1 + 9) o = nI (A o 4) := ((hR.2.2.2 o ho).2 ha).2.2.2.2.2.1
    simp only [pA_h_9 hp_1 ho, pbs, h9, c1, x4_putRoots hp_1 ho]
    exact ⟨_, L, rfl, cS_heap hC (by omega) (ph_root (v := A o 4 ||| 2 ^ q) hR (I 1 12 + nI 1) ho ha) up2_eq (fun a ha => by rw [up2_a (by omega), up2_a (by omega)]), fun a ha => ⟨by rw [up2_a (by omega), up2_a (by omega)], rfl⟩⟩
  rw [if_neg x1] at h0 ⊢
  rw [if_neg x1]
  by_cases x2 : T p = 45
  · rw [if_pos x2] at h0 ⊢
    rw [if_pos x2]
    rw [m2 (by omega) (by omega), m3 (by omega)]
    obtain ⟨o, q, ho, ha, hq, hx, hy⟩ := pz_unr_ex h0
    rw [nI_eq (by omega) (by omega)] at hx hy
    rw [hx, hy]
    have h7 : A o 4 ≤ 7 := (w.2.2.2.1 o ho ha).2.2.1
    obtain ⟨c1, c2⟩ := pk_an h7 hq
    simp only [plit] at c1
    have h9 : I (1 + 9) o = nI (A o 4) := ((hR.2.2.2 o ho).2 ha).2.2.2.2.2.1
    simp only [pA_h_9 hp_1 ho, pbs, h9, c1, x4_putRoots hp_1 ho]
    exact ⟨_, L, rfl, cS_heap hC (by omega) (ph_root (v := A o 4 &&& (7 - 2 ^ q)) hR (I 1 12 + nI 1) ho ha) up2_eq (fun a ha => by rw [up2_a (by omega), up2_a (by omega)]), fun a ha => ⟨by rw [up2_a (by omega), up2_a (by omega)], rfl⟩⟩
  rw [if_neg x2] at h0 ⊢
  rw [if_neg x2]
  by_cases x3 : T p = 97
  · rw [if_pos x3] at h0 ⊢
    rw [if_pos x3]
    rw [m2 (by omega) (by omega)]
    unfold pz_arr at h0
    cases e : pn_at 9 (nI (cX t T p)) with
    | none => rw [e] at h0; cases h0
    | some m =>
      rw [e] at h0
      obtain ⟨hm, hx⟩ := pn_at_some (by omega) e
      rw [nI_eq (by omega) (by omega)] at hx
      obtain ⟨o1, o2, o3⟩ := po_lo_ex (pz_full_ct h0)
      rw [x4_addArray hp_1 hR w (by omega) o1 o2 o3, pbs]
      exact ⟨_, L, rfl, cS_heap hC (by omega) (ph_new hR w o1 (by rw [pa_so_new o1]; rfl)) pu_new_v (fun a ha => pu_new_fr a (by omega)), fun a ha => ⟨pu_new_fr a (by omega), rfl⟩⟩
  rw [if_neg x3] at h0 ⊢
  rw [if_neg x3]
  by_cases x4 : T p = 110
  · rw [if_pos x4] at h0 ⊢
    rw [if_pos x4]
    rw [m2 (by omega) (by omega)]
    unfold pz_ins at h0
    rw [pa_isC_nI w (by omega)] at h0
    have h10 := pa_cc10 w
    by_cases e : cX t T p < A 40 0
    · rw [decide_eq_true e, if_pos rfl] at h0
      obtain ⟨o1, o2, o3⟩ := po_lo_ex (pz_full_ct h0)
      rw [x4_addInstance hp_1 hR w e o1 o2 o3, pbs]
      exact ⟨_, L, rfl, cS_heap hC (by omega) (ph_new hR w o1 (by rw [pa_so_new o1, if_neg (by omega), if_neg (by omega)])) pu_new_v (fun a ha => pu_new_fr a (by omega)), fun a ha => ⟨pu_new_fr a (by omega), rfl⟩⟩
    · rw [decide_eq_false e] at h0
      cases h0
  rw [if_neg x4] at h0 ⊢
  rw [if_neg x4]
  by_cases x5 : T p = 115
  · rw [if_pos x5] at h0 ⊢
    rw [if_pos x5]
    rw [m2 (by omega) (by omega), m3 (by omega), m4 x5]
    unfold pz_set at h0
    cases e : pa_isS A (nI (cX t T p)) (nI (cY t T p)) && (decide (mI (cZ t T p) = -nI 1) || pa_isO A (mI (cZ t T p)))
    · rw [e] at h0
      cases h0
    · simp only [Bool.and_eq_true, Bool.or_eq_true, decide_eq_true_eq] at e
      obtain ⟨o, s, ho, ha, hs, hx, hy⟩ := pa_isS_ex e.1 w
      have h8 := pa_sl8 w ho ha
      rw [nI_eq (by omega) (by omega)] at hx hy
      rw [hx, hy, x4_putTarget hp_1 hR w ho ha hs, pbs]
      exact ⟨_, L, rfl, cS_heap hC (by omega) (ph_set (v := cZ t T p) hR (I 1 12 + nI 1) ho ha (by omega)) up2_eq (fun a ha => by rw [up2_a (by omega), up2_a (by omega)]), fun a ha => ⟨by rw [up2_a (by omega), up2_a (by omega)], rfl⟩⟩
  rw [if_neg x5] at h0 ⊢
  rw [if_neg x5]
  by_cases x6 : T p = 119
  · rw [if_pos x6] at h0 ⊢
    rw [if_pos x6]
    obtain ⟨o1, o2, o3⟩ := po_lo_ex (pz_full_ct h0)
    rw [x4_addHolder hp_1 hR w o1 o2 o3, pbs]
    exact ⟨_, L, rfl, cS_heap hC (by omega) (ph_new hR w o1 (by rw [pa_so_new o1]; rfl)) pu_new_v (fun a ha => pu_new_fr a (by omega)), fun a ha => ⟨pu_new_fr a (by omega), rfl⟩⟩
  rw [if_neg x6, if_neg x6]
  obtain ⟨J, K, f1, f2, f3⟩ := x0_garbage hC hA
  rw [f1, pbs]
  exact ⟨J, K, rfl, f2, f3⟩
/-! the reference does one -/
set_option maxRecDepth 8192 in
theorem r9_does (hN : pr_row (I 131) A) (w : pa_wf A) {i p : Nat} (hi : i < 99) (hT : ∀ j, j < t → T j < 128) (hp : p < t) (hm : cmS t T p (I 147 (4 * i)) (I 147 (4 * i + 1)) (I 147 (4 * i + 2)) (I 147 (4 * i + 3))) : ∃ J, f_X9_does 130 (nI i) (pm I L r) = some (bI (decide (cR t T A p = 0)), pm J L r) ∧ (cR t T A p = 0 → pr_row (J 131) (cA t T A p)) ∧ ∀ a, a ≠ 131 → J a = I a := by
  have hTp := hT p hp
  obtain ⟨b1, b2, b3⟩ := cX_lt hT p
  obtain ⟨m1, m2, m3, m4⟩ := hm
  have hfl : fb_ct (pa_al A) 40 = 40 → pz_full A ≠ 0 := fun h => by
    unfold pz_full
    rw [if_neg (by omega)]
    decide
  have hfl2 : ¬ fb_ct (pa_al A) 40 = 40 → pz_full A = 0 := fun h => by
    have := fb_ct_le (pa_al A) 40
    unfold pz_full
    rw [if_pos (by omega)]
  have hct := fb_ct_le (pa_al A) 40
  have hun : f_X9_does 130 (nI i) (pm I L r) = (if T p = 43 then (f_X9_rootRefusal 130 (I 147 (4 * i + 1)) (I 147 (4 * i + 2)) (pm I L r)).bind fun r10 => if r10.1 = nI 0 then (hb_getR r10.2 130 9 0).bind fun r12 => (f_X9_at (I 147 (4 * i + 1)) r10.2).bind fun r13 => (hb_iald r13.2 r12 (r13.1 + nI 4)).bind fun r14 => (hb_iast r13.2 r12 (r13.1 + nI 4) (r14 ||| (nI 1 <<< (I 147 (4 * i + 2) &&& nI 31)))).bind fun r15 => some (nI 1, r15) else some (nI 0, r10.2) else if T p = 45 then (f_X9_unrootRefusal 130 (I 147 (4 * i + 1)) (I 147 (4 * i + 2)) (pm I L r)).bind fun r10 => if r10.1 = nI 0 then (hb_getR r10.2 130 9 0).bind fun r12 => (f_X9_at (I 147 (4 * i + 1)) r10.2).bind fun r13 => (hb_iald r13.2 r12 (r13.1 + nI 4)).bind fun r14 => (hb_iast r13.2 r12 (r13.1 + nI 4) (r14 &&& ((nI 1 <<< (I 147 (4 * i + 2) &&& nI 31)) ^^^ (-nI 1)))).bind fun r15 => some (nI 1, r15) else some (nI 0, r10.2) else if T p = 97 then (f_X9_arrayRefusal 130 (I 147 (4 * i + 1)) (pm I L r)).bind fun r24 => if r24.1 = nI 0 then (hb_on r24.2 130 9 (f_X9_creates 130 (nI 10) (I 147 (4 * i + 1)) r24.2)).bind fun r26 => some (nI 1, r26.2) else some (nI 0, r24.2) else if T p = 110 then (f_X9_instanceRefusal 130 (I 147 (4 * i + 1)) (pm I L r)).bind fun r28 => if r28.1 = nI 0 then (hb_on r28.2 130 9 (f_X9_fieldsOf 130 (I 147 (4 * i + 1)) r28.2)).bind fun r30 => (hb_on r30.2 130 9 (f_X9_creates 130 (I 147 (4 * i + 1)) r30.1 r30.2)).bind fun r31 => some (nI 1, r31.2) else some (nI 0, r28.2) else if T p = 115 then (f_X9_setRefusal 130 (I 147 (4 * i + 1)) (I 147 (4 * i + 2)) (I 147 (4 * i + 3)) (pm I L r)).bind fun r33 => if r33.1 = nI 0 then (hb_getR r33.2 130 9 0).bind fun r35 => (f_X9_at (I 147 (4 * i + 1)) r33.2).bind fun r36 => (hb_iast r36.2 r35 ((r36.1 + nI 5) + I 147 (4 * i + 2)) (I 147 (4 * i + 3))).bind fun r37 => some (nI 1, r37) else some (nI 0, r33.2) else if T p = 119 then (f_X9_many 130 (pm I L r)).bind fun r39 => if r39.1 = nI 40 then some (nI 0, r39.2) else (hb_on r39.2 130 9 (f_X9_creates 130 (nI 11) (nI 1) r39.2)).bind fun r41 => some (nI 1, r41.2) else (f_X9_collects 130 (pm I L r)).bind fun r42 => some (nI 1, r42.2)) := by
    unfold f_X9_does
    simp (maxSteps := 2000000) (disch := omega) only [plit, pR_130_25, pbs, pk_mul, nI_add, pA_147, m1, pn_eq, pO_130]
  rw [hun]
  unfold cA cR
  by_cases x1 : T p = 43
  · simp only [if_pos x1]
    rw [m2 (by omega) (by omega), m3 (by omega)]
    rw [r9_rootRef hN w, pbs]
    by_cases h0 : pz_root A (nI (cX t T p)) (nI (cY t T p)) = 0
    · obtain ⟨o, q, ho, ha, hq, hx, hy⟩ := pz_root_ex h0
      rw [nI_eq (by omega) (by omega)] at hx hy
      rw [h0, hx, hy]
      have h7 : A o 4 ≤ 7 := (w.2.2.2.1 o ho ha).2.2.1
      obtain ⟨c1, c2⟩ := pk_or h7 hq
      simp only [plit] at c1
      have h4 := (hN.2.2.2 o ho).1 4 (by decide)
      simp (disch := omega) only [reduceIte, pR_130_0, pbs, r9_at, nI_add, pA_131, h4, c1, pS_131]
      exact ⟨_, rfl, fun _ => pr_root hN ho, fun a ha => up2_a ha⟩
    · have hz := pz_of_le (pa_isO A (nI (cX t T p))) (nI (cY t T p)) 2
      have hz2 : pz_root A (nI (cX t T p)) (nI (cY t T p)) ≤ 3 := hz
      rw [if_neg (by rw [pn_eq (by omega) (by omega)]; exact h0), decide_eq_false h0]
      exact ⟨I, rfl, fun h => absurd h h0, fun _ _ => rfl⟩
  simp only [if_neg x1]
  by_cases x2 : T p = 45
  · simp only [if_pos x2]
    rw [m2 (by omega) (by omega), m3 (by omega)]
    rw [r9_unrootRef hN w, pbs]
    by_cases h0 : pz_unr A (nI (cX t T p)) (nI (cY t T p)) = 0
    · obtain ⟨o, q, ho, ha, hq, hx, hy⟩ := pz_unr_ex h0
      rw [nI_eq (by omega) (by omega)] at hx hy
      rw [h0, hx, hy]
      have h7 : A o 4 ≤ 7 := (w.2.2.2.1 o ho ha).2.2.1
      obtain ⟨c1, c2⟩ := pk_an h7 hq
      simp only [plit] at c1
      have h4 := (hN.2.2.2 o ho).1 4 (by decide)
      simp (disch := omega) only [reduceIte, pR_130_0, pbs, r9_at, nI_add, pA_131, h4, c1, pS_131]
      exact ⟨_, rfl, fun _ => pr_root hN ho, fun a ha => up2_a ha⟩
    · have hz := pz_unr_le A (nI (cX t T p)) (nI (cY t T p))
      rw [if_neg (by rw [pn_eq (by omega) (by omega)]; exact h0), decide_eq_false h0]
      exact ⟨I, rfl, fun h => absurd h h0, fun _ _ => rfl⟩
  simp only [if_neg x2]
  by_cases x3 : T p = 97
  · simp only [if_pos x3]
    rw [m2 (by omega) (by omega)]
    unfold f_X9_arrayRefusal pz_arr
    simp only [plit, pO_130, pbs, r9_in (show 8 + 1 < 2 ^ 31 from by decide), bIn, r9_many hN w, r9_full hN w]
    cases e : pn_at (8 + 1) (nI (cX t T p)) with
    | none => exact ⟨I, rfl, (fun h => by cases h), fun _ _ => rfl⟩
    | some m =>
      simp only [Option.isSome_some, Bool.true_eq_false, if_false, if_true]
      by_cases e2 : fb_ct (pa_al A) 40 < 40
      · have h0 := hfl2 (by omega)
        obtain ⟨o1, o2, o3⟩ := po_lo_ex e2
        simp only [e2, not_true, if_false, pO_130, pbs, reduceIte, r9_creates hN w o1 o2 o3, h0, decide_true]
        exact ⟨_, rfl, fun _ => pr_new hN o1, fun a ha => pv_new_ne ha⟩
      · have h0 := hfl (by omega)
        simp only [e2, not_false_eq_true, if_true, pbs, h0, decide_false]
        exact ⟨I, rfl, (fun h => by cases h), fun _ _ => rfl⟩
  simp only [if_neg x3]
  by_cases x4 : T p = 110
  · simp only [if_pos x4]
    rw [m2 (by omega) (by omega)]
    unfold f_X9_instanceRefusal pz_ins
    simp only [plit, pO_130, pbs, r9_isClass hN w, bIn, r9_many hN w, r9_full hN w, pa_isC_nI w (show cX t T p < 2 ^ 31 from by omega)]
    by_cases e : cX t T p < A 40 0
    · simp only [decide_eq_true e, Bool.true_eq_false, if_false, if_true]
      by_cases e2 : fb_ct (pa_al A) 40 < 40
      · have h0 := hfl2 (by omega)
        obtain ⟨o1, o2, o3⟩ := po_lo_ex e2
        simp only [e2, not_true, if_false, pO_130, pbs, reduceIte, r9_fieldsOf hN w e, r9_creates hN w o1 o2 o3, h0, decide_true]
        exact ⟨_, rfl, fun _ => pr_new hN o1, fun a ha => pv_new_ne ha⟩
      · have h0 := hfl (by omega)
        simp only [e2, not_false_eq_true, if_true, pbs, h0, decide_false]
        exact ⟨I, rfl, (fun h => by cases h), fun _ _ => rfl⟩
    · simp only [decide_eq_false e, if_true, Bool.false_eq_true, if_false]
      exact ⟨I, rfl, (fun h => by cases h), fun _ _ => rfl⟩
  simp only [if_neg x4]
  by_cases x5 : T p = 115
  · simp only [if_pos x5]
    rw [m2 (by omega) (by omega), m3 (by omega), m4 x5]
    rw [r9_setRef hN w, pbs]
    by_cases h0 : pz_set A (nI (cX t T p)) (nI (cY t T p)) (mI (cZ t T p)) = 0
    · rw [h0]
      unfold pz_set at h0
      cases e : pa_isS A (nI (cX t T p)) (nI (cY t T p)) && (decide (mI (cZ t T p) = -nI 1) || pa_isO A (mI (cZ t T p)))
      · rw [e] at h0
        cases h0
      · simp only [Bool.and_eq_true, Bool.or_eq_true, decide_eq_true_eq] at e
        obtain ⟨o, s, ho, ha, hs, hx, hy⟩ := pa_isS_ex e.1 w
        have h8 := pa_sl8 w ho ha
        rw [nI_eq (by omega) (by omega)] at hx hy
        rw [hx, hy]
        simp (disch := omega) only [reduceIte, pR_130_0, pbs, r9_at, nI_add, pS_131]
        exact ⟨_, rfl, fun _ => pr_set hN ho (by omega), fun a ha => up2_a ha⟩
    · have hz := pz_set_le A (nI (cX t T p)) (nI (cY t T p)) (mI (cZ t T p))
      rw [if_neg (by rw [pn_eq (by omega) (by omega)]; exact h0), decide_eq_false h0]
      exact ⟨I, rfl, fun h => absurd h h0, fun _ _ => rfl⟩
  simp only [if_neg x5]
  by_cases x6 : T p = 119
  · simp only [if_pos x6]
    rw [r9_many hN w, pbs]
    by_cases e2 : fb_ct (pa_al A) 40 < 40
    · have h0 := hfl2 (by omega)
      obtain ⟨o1, o2, o3⟩ := po_lo_ex e2
      simp only [r9_full hN w, e2, not_true, if_false, pO_130, pbs, r9_creates hN w o1 o2 o3, h0, decide_true]
      exact ⟨_, rfl, fun _ => pr_new hN o1, fun a ha => pv_new_ne ha⟩
    · have h0 := hfl (by omega)
      simp only [r9_full hN w, e2, not_false_eq_true, if_true, h0, decide_false]
      exact ⟨I, rfl, (fun h => by cases h), fun _ _ => rfl⟩
  simp only [if_neg x6]
  obtain ⟨J2, f1, f2, f3⟩ := r9_collects (L := L) (r := r) hN w
  rw [f1, pbs]
  exact ⟨J2, rfl, fun _ => f2, f3⟩
end CMD6
