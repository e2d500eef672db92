/-! calls: referent, roots, undo, the text -/
section OP4
variable {I J : Nat → Nat → Int32} {L K : Nat → Nat → Int64} {r : Nat → Option Nat} {A : Nat → Nat → Nat} {n : Nat} {H : Nat → Nat → Nat → Nat} {t : Nat} {T : Nat → Nat} {P : Nat → Nat → Nat → Nat} {k : Nat → Bool} {B : Nat}
set_option maxRecDepth 8192 in
theorem ok_referent (x : Int32) (hC : cS I L r A n H t T P k B) (hA : aS A n H t T P k B) (hB : B + 1000 < 2 ^ 29) : opK (fun σ => f_L_referent 0 x 148 σ) (fun σ => f_X9_referent 130 x σ) Int32.toInt64 I L r A n H t T P k B := by
  have w := hA.2.1
  have hX : f_X8_referent 0 x (pm I L r) = hb_xb (f_X8_refuseUnless (bI (pa_isO A x)) (pm I L r)) fun v3 r3 => (hb_getR r3 0 8 0).bind fun r4 => (hb_getR r3 r4 4 4).bind fun r5 => (hb_iald r3 r5 x).bind fun r6 => if r6 = (11 : Int32) then f_X8_referent_b30 0 x (0 : Int32) r3 else f_X8_referent_b30 0 x (3 : Int32) r3 := by
    unfold f_X8_referent
    simp only [pR_0_0, pbs, pO_h hp_1, x4_hasObject hp_1 hC.1 w]
  rw [pz_xu] at hX
  cases e : pa_isO A x
  · rw [e] at hX
    refine opK_rf (nI 0) (c := 1) (by decide) (by decide) ?_ ?_ hC hA hB
    · show f_L_referent 0 x 148 (pm I L r) = _
      unfold f_L_referent
      rw [xc_ex hX]
      exact if_pos rfl
    · intro J K r' hJ
      show f_X9_referent 130 x (pm J K r') = _
      unfold f_X9_referent f_X9_referent_b34
      simp only [pO_130, pbs, r9_isObject hJ.1 w, e, bIn, r9_rf (show 1 ≤ 100 from by decide), plit]
      rfl
  · rw [e, if_pos rfl] at hX
    obtain ⟨o, ho, ha, hx⟩ := pa_isO_ex e
    subst hx
    have hg := pa_gr w ho ha
    have h4 : I 5 o = nI (A o 1) := ((hC.1.2.2.2 o ho).2 ha).1
    unfold f_X8_referent_b30 at hX
    simp (disch := omega) only [plit, pR_0_0, pbs, pR_h_4 hp_1, pA_h_4 hp_1, show 1 + 4 = 5 from rfl, h4, pn_eq, pz_xb (show 0 ≤ 3 from by decide), pz_xb (show 3 ≤ 3 from by decide), if_true, show ¬ (3 : Nat) = 0 from by decide, if_false, pO_h hp_1, x4_target hp_1 hC.1 w ho ha (show 0 < 8 from by decide)] at hX
    by_cases e1 : A o 1 = 11
    · rw [if_pos e1] at hX
      refine opK_ask (mI (A o 5)) ⟨I, L, ?_, hC, fun _ _ _ => ⟨rfl, rfl⟩⟩ ?_ hA hB
      · show f_L_referent 0 (nI o) 148 (pm I L r) = _
        unfold f_L_referent
        exact xc_in hX
      · intro J K r' hJ
        have h5 := (hJ.1.2.2.2 o ho).2 0 (by omega)
        have h1 := (hJ.1.2.2.2 o ho).1 1 (by omega)
        rw [Nat.add_zero] at h5
        refine ⟨_, K, ?_, up2_eq, mK_rf (x := nI 0), mO_rf⟩
        unfold f_X9_referent f_X9_referent_b34
        simp (disch := omega) only [pbs, pO_130, pR_130_0, pA_131, pS_131, plit, nI_add, pk_mul, pn_le, pn_lt, if_true, if_false, reduceIte, r9_isObject hJ.1 w, e, bIn, Bool.true_eq_false, r9_at, h1, e1, r9_rf (show 0 ≤ 100 from by decide), ne_eq, not_true, decide_false, up2_ne, h5]
    · rw [if_neg e1] at hX
      refine opK_rf (nI 0) (c := 2) (by decide) (by decide) ?_ ?_ hC hA hB
      · show f_L_referent 0 (nI o) 148 (pm I L r) = _
        unfold f_L_referent
        rw [xc_ex hX]
        exact (if_neg pe_31).trans (if_pos rfl)
      · intro J K r' hJ
        have h1 := (hJ.1.2.2.2 o ho).1 1 (by omega)
        show f_X9_referent 130 (nI o) (pm J K r') = _
        unfold f_X9_referent f_X9_referent_b34
        simp (disch := omega) only [pbs, pO_130, pR_130_0, pA_131, pS_131, plit, nI_add, pk_mul, pn_le, pn_lt, if_true, if_false, reduceIte, r9_isObject hJ.1 w, e, bIn, Bool.true_eq_false, r9_at, h1, pn_eq, e1, r9_rf (show 2 ≤ 100 from by decide)]
        rfl
set_option maxRecDepth 8192 in
theorem r9_rootRef (hN : pr_row (I 131) A) (w : pa_wf A) (x y : Int32) : f_X9_rootRefusal 130 x y (pm I L r) = some (nI (pz_root A x y), pm I L r) := by
  unfold f_X9_rootRefusal pz_root pz_of
  simp only [plit, pO_130, pbs, r9_isObject hN w, bIn, r9_in (show 2 + 1 < 2 ^ 31 from by decide)]
  cases pa_isO A x
  · rfl
  · cases (pn_at (2 + 1) y).isSome <;> rfl
set_option maxRecDepth 8192 in
theorem pz_root_ex {x y : Int32} (h : pz_root A x y = 0) : ∃ o q, o < 40 ∧ A o 0 ≠ 0 ∧ q < 3 ∧ x = nI o ∧ y = nI q := by
  unfold pz_root pz_of at h
  cases e : pa_isO A x
  · rw [e] at h; cases h
  · obtain ⟨o, ho, ha, hx⟩ := pa_isO_ex e
    rw [e] at h
    cases e2 : pn_at (2 + 1) y with
    | none => rw [e2] at h; cases h
    | some q =>
      obtain ⟨hq, hy⟩ := pn_at_some (by omega) e2
      exact ⟨o, q, ho, ha, hq, hx, hy⟩
set_option maxRecDepth 8192 in
theorem r9_unrootRef (hN : pr_row (I 131) A) (w : pa_wf A) (x y : Int32) : f_X9_unrootRefusal 130 x y (pm I L r) = some (nI (pz_unr A x y), pm I L r) := by
  unfold f_X9_unrootRefusal pz_unr
  simp only [plit, pO_130, pbs, r9_rootRef hN w]
  unfold pz_root pz_of pa_isO
  cases e : pn_at 40 x with
  | none => rfl
  | some o =>
    obtain ⟨ho, hx⟩ := pn_at_some (by omega) e
    subst hx
    by_cases ha : A o 0 = 0
    · simp only [pa_al, ha, ne_eq, not_true, decide_false, Bool.false_eq_true, if_false, if_true]
      rfl
    · have h4 := (hN.2.2.2 o ho).1 4 (by decide)
      have h7 : A o 4 ≤ 7 := (w.2.2.2.1 o ho ha).2.2.1
      simp only [pa_al, ha, ne_eq, not_false_eq_true, decide_true, if_true, if_false]
      cases e2 : pn_at (2 + 1) y with
      | none => rfl
      | some q =>
        obtain ⟨hq, hy⟩ := pn_at_some (by omega) e2
        subst hy
        have hb := pk_bit h7 hq
        simp only [plit] at hb
        simp (disch := omega) only [Option.isSome_some, if_true, pbs, pO_130, pR_130_0, pA_131, pS_131, plit, nI_add, pk_mul, pn_le, pn_lt, if_true, if_false, reduceIte, r9_at, h4, hb]
        have h2 : A o 4 / 2 ^ q % 2 < 2 := Nat.mod_lt _ (by decide)
        generalize A o 4 / 2 ^ q % 2 = b at h2 ⊢
        simp (disch := omega) only [pn_eq]
        by_cases eb : b = 1
        · simp [eb]
        · have : b = 0 := by omega
          simp [this]
set_option maxRecDepth 8192 in
theorem ok_addRoot (x y : Int32) (hC : cS I L r A n H t T P k B) (hA : aS A n H t T P k B) (hB : B + 1000 < 2 ^ 29) : opK (fun σ => f_L_addRoot 0 x y 148 σ) (fun σ => f_X9_addRoot 130 x y σ) Int32.toInt64 I L r A n H t T P k B := by
  have w := hA.2.1
  have hX : f_X8_addRoot 0 x y (pm I L r) = hb_xb (f_X8_refuse (nI (pz_root A x y)) (pm I L r)) fun v3 r3 => (hb_getR r3 0 8 2).bind fun r4 => (hb_getR r3 0 8 0).bind fun r5 => (hb_on r3 r4 5 (f_X5_save r4 r5 r3)).bind fun r6 => (hb_getR r6 0 8 0).bind fun r7 => (hb_getR r6 0 8 0).bind fun r8 => (hb_getR r6 r8 4 9).bind fun r9 => (hb_iald r6 r9 x).bind fun r10 => (hb_on r6 r7 4 (f_X4_putRoots r7 x (r10 ||| ((1 : Int32) <<< (y &&& 31))) r6)).bind fun r11 => some (.inr r11.1, r11.2) := by
    unfold f_X8_addRoot
    simp only [pR_0_0, pbs, pO_h hp_1, x4_pRoot hp_1 hC.1 w]
  rw [pz_xb (show pz_root A x y ≤ 3 from pz_of_le _ _ _)] at hX
  by_cases e0 : pz_root A x y = 0
  · rw [if_pos e0] at hX
    obtain ⟨o, q, ho, ha, hq, hx, hy⟩ := pz_root_ex e0
    subst hx
    subst hy
    have h7 : A o 4 ≤ 7 := (w.2.2.2.1 o ho ha).2.2.1
    obtain ⟨b1, b2⟩ := pk_or h7 hq
    refine opK_mut (A' := up2 A o 4 (A o 4 ||| 2 ^ q)) (nI (A o 4 ||| 2 ^ q)) ?_ ?_ (pa_wf_root w ho ha b2) (by
      have := hA.2.2.1
      rw [up2_ne (by omega)]
      omega) hC hA hB
    · intro J r' g1 g2
      have h9 : J (1 + 9) o = nI (A o 4) := ((g2.2.2.2 o ho).2 ha).2.2.2.2.2.1
      refine ⟨_, ?_, ph_root (v := A o 4 ||| 2 ^ q) g2 (J 1 12 + nI 1) ho ha, up2_eq, fun a ha => by rw [up2_a (by omega), up2_a (by omega)]⟩
      show f_L_addRoot 0 (nI o) (nI q) 148 (pm I L r) = _
      unfold f_L_addRoot
      refine xc_in ?_
      rw [hX]
      simp only [pR_0_0, pR_0_2, pbs, pO_29, g1, pO_h hp_1, pR_h_9 hp_1, pA_h_9 hp_1 ho, h9, b1, x4_putRoots hp_1 ho]
    · intro J K r' J1 g1 g2 g3
      have h4 := (g3.2.2.2 o ho).1 4 (by decide)
      refine ⟨_, ?_, pr_root (v := A o 4 ||| 2 ^ q) g3 ho, fun a ha => up2_a ha⟩
      show f_X9_addRoot 130 (nI o) (nI q) (pm J K r') = _
      unfold f_X9_addRoot
      simp only [plit] at b1
      simp (disch := omega) only [pbs, pO_130, pR_130_0, pA_131, pS_131, plit, nI_add, pk_mul, pn_le, pn_lt, if_true, if_false, reduceIte, r9_rootRef g2.1 w, e0, r9_rf (show 0 ≤ 100 from by decide), bIn, ne_eq, not_true, decide_false, g1, r9_at, h4, b1, up2_eq]
  · rw [if_neg e0] at hX
    refine opK_rf (nI 0) (c := pz_root A x y) (pz_of_le _ _ _) e0 ?_ ?_ hC hA hB
    · show f_L_addRoot 0 x y 148 (pm I L r) = _
      unfold f_L_addRoot
      rw [xc_ex hX]
      have hle : pz_root A x y = 0 ∨ pz_root A x y = 1 ∨ pz_root A x y = 2 := by
        unfold pz_root pz_of
        split
        · split <;> simp
        · simp
      rcases hle with h | h | h
      · exact absurd h e0
      · rw [h]; rfl
      · rw [h]; rfl
    · intro J K r' hJ
      show f_X9_addRoot 130 x y (pm J K r') = _
      unfold f_X9_addRoot
      simp only [plit, pO_130, pbs, r9_rootRef hJ.1 w, r9_rf (show pz_root A x y ≤ 100 from Nat.le_trans (pz_of_le _ _ _) (by decide)), bIn]
      rw [if_neg (by simp [e0])]
set_option maxRecDepth 8192 in
theorem pz_unr_ex {x y : Int32} (h : pz_unr A x y = 0) : ∃ o q, o < 40 ∧ A o 0 ≠ 0 ∧ q < 3 ∧ x = nI o ∧ y = nI q := by
  unfold pz_unr at h
  cases e : pn_at 40 x with
  | none => rw [e] at h; cases h
  | some o =>
    obtain ⟨ho, hx⟩ := pn_at_some (by omega) e
    simp only [e] at h
    have ha : A o 0 ≠ 0 := by
      intro h2
      simp [h2] at h
    cases e2 : pn_at 3 y with
    | none => simp [ha, e2] at h
    | some q =>
      obtain ⟨hq, hy⟩ := pn_at_some (by omega) e2
      exact ⟨o, q, ho, ha, hq, hx, hy⟩
set_option maxRecDepth 8192 in
theorem ok_removeRoot (x y : Int32) (hC : cS I L r A n H t T P k B) (hA : aS A n H t T P k B) (hB : B + 1000 < 2 ^ 29) : opK (fun σ => f_L_removeRoot 0 x y 148 σ) (fun σ => f_X9_removeRoot 130 x y σ) Int32.toInt64 I L r A n H t T P k B := by
  have w := hA.2.1
  have hX : f_X8_removeRoot 0 x y (pm I L r) = hb_xb (f_X8_refuse (nI (pz_unr A x y)) (pm I L r)) fun v3 r3 => (hb_getR r3 0 8 2).bind fun r4 => (hb_getR r3 0 8 0).bind fun r5 => (hb_on r3 r4 5 (f_X5_save r4 r5 r3)).bind fun r6 => (hb_getR r6 0 8 0).bind fun r7 => (hb_getR r6 0 8 0).bind fun r8 => (hb_getR r6 r8 4 9).bind fun r9 => (hb_iald r6 r9 x).bind fun r10 => (hb_on r6 r7 4 (f_X4_putRoots r7 x (r10 &&& (((1 : Int32) <<< (y &&& 31)) ^^^ (-1 : Int32))) r6)).bind fun r11 => some (.inr r11.1, r11.2) := by
    unfold f_X8_removeRoot
    simp only [pR_0_0, pbs, pO_h hp_1, x4_pUnroot hp_1 hC.1 w]
  rw [pz_xb (pz_unr_le A x y)] at hX
  by_cases e0 : pz_unr A x y = 0
  · rw [if_pos e0] at hX
    obtain ⟨o, q, ho, ha, hq, hx, hy⟩ := pz_unr_ex e0
    subst hx
    subst hy
    have h7 : A o 4 ≤ 7 := (w.2.2.2.1 o ho ha).2.2.1
    obtain ⟨b1, b2⟩ := pk_an h7 hq
    refine opK_mut (A' := up2 A o 4 (A o 4 &&& (7 - 2 ^ q))) (nI (A o 4 &&& (7 - 2 ^ q))) ?_ ?_ (pa_wf_root w ho ha b2) (by
      have := hA.2.2.1
      rw [up2_ne (by omega)]
      omega) hC hA hB
    · intro J r' g1 g2
      have h9 : J (1 + 9) o = nI (A o 4) := ((g2.2.2.2 o ho).2 ha).2.2.2.2.2.1
      refine ⟨_, ?_, ph_root (v := A o 4 &&& (7 - 2 ^ q)) g2 (J 1 12 + nI 1) ho ha, up2_eq, fun a ha => by rw [up2_a (by omega), up2_a (by omega)]⟩
      show f_L_removeRoot 0 (nI o) (nI q) 148 (pm I L r) = _
      unfold f_L_removeRoot
      refine xc_in ?_
      rw [hX]
      simp only [pR_0_0, pR_0_2, pbs, pO_29, g1, pO_h hp_1, pR_h_9 hp_1, pA_h_9 hp_1 ho, h9, b1, x4_putRoots hp_1 ho]
    · intro J K r' J1 g1 g2 g3
      have h4 := (g3.2.2.2 o ho).1 4 (by decide)
      refine ⟨_, ?_, pr_root (v := A o 4 &&& (7 - 2 ^ q)) g3 ho, fun a ha => up2_a ha⟩
      show f_X9_removeRoot 130 (nI o) (nI q) (pm J K r') = _
      unfold f_X9_removeRoot
      simp only [plit] at b1
      simp (disch := omega) only [pbs, pO_130, pR_130_0, pA_131, pS_131, plit, nI_add, pk_mul, pn_le, pn_lt, if_true, if_false, reduceIte, r9_unrootRef g2.1 w, e0, r9_rf (show 0 ≤ 100 from by decide), bIn, ne_eq, not_true, decide_false, g1, r9_at, h4, b1, up2_eq]
  · rw [if_neg e0] at hX
    refine opK_rf (nI 0) (c := pz_unr A x y) (pz_unr_le A x y) e0 ?_ ?_ hC hA hB
    · show f_L_removeRoot 0 x y 148 (pm I L r) = _
      unfold f_L_removeRoot
      rw [xc_ex hX]
      have hle := pz_unr_le A x y
      generalize pz_unr A x y = m at e0 hle
      match m, e0, hle with
      | 1, _, _ => rfl
      | 2, _, _ => rfl
      | 3, _, _ => rfl
    · intro J K r' hJ
      show f_X9_removeRoot 130 x y (pm J K r') = _
      unfold f_X9_removeRoot
      simp only [plit, pO_130, pbs, r9_unrootRef hJ.1 w, r9_rf (show pz_unr A x y ≤ 100 from Nat.le_trans (pz_unr_le A x y) (by decide)), bIn]
      rw [if_neg (by simp [e0])]
set_option maxRecDepth 8192 in
theorem ok_undo (hC : cS I L r A n H t T P k B) (hA : aS A n H t T P k B) (hB : B + 1000 < 2 ^ 29) : opK (fun σ => f_L_undo 0 148 σ) (fun σ => f_X9_undo 130 σ) Int32.toInt64 I L r A n H t T P k B := by
  have w := hA.2.1
  have hB0 := hA.1
  obtain ⟨h1, h2, ⟨π, h3⟩, h4, h5⟩ := hC
  have hC : cS I L r A n H t T P k B := ⟨h1, h2, ⟨π, h3⟩, h4, h5⟩
  obtain ⟨n5, c1, c2, c3, c4⟩ := h3
  have hX : f_X8_undo 0 (pm I L r) = hb_xb (f_X8_refuse (nI (if n = 0 then 3 else 0)) (pm I L r)) fun v1 r1 => (hb_getR r1 0 8 0).bind fun r2 => (hb_getR r1 0 8 2).bind fun r3 => (hb_on r1 r3 5 (f_X5_latest r3 r1)).bind fun r4 => (hb_on r4.2 r2 4 (f_X4_copyFrom r2 r4.1 r4.2)).bind fun r5 => (hb_getR r5 0 8 2).bind fun r6 => (hb_on r5 r6 5 (f_X5_dropLatest r6 r5)).bind fun r7 => (hb_getR r7 0 8 2).bind fun r8 => (hb_getI r7 r8 5 1).bind fun r9 => some (.inr r9, r7) := by
    unfold f_X8_undo f_X8_undo_b15
    simp (disch := omega) only [pR_0_2, pbs, pI_29_1, c1, plit, pn_le]
    by_cases e : n = 0
    · rw [if_pos (by omega), if_pos e]
    · rw [if_neg (by omega), if_neg e]
  by_cases e : n = 0
  · rw [if_pos e, pz_xb (by decide), if_neg (by decide)] at hX
    refine opK_rf (nI 0) (c := 1) (by decide) (by decide) ?_ ?_ hC hA hB
    · show f_L_undo 0 148 (pm I L r) = _
      unfold f_L_undo
      rw [xc_ex hX]
      exact if_pos rfl
    · intro J K r' hJ
      show f_X9_undo 130 (pm J K r') = _
      unfold f_X9_undo f_X9_undo_b13
      simp only [pI_130_3, pbs, hJ.2.1, e, plit, if_true, pO_130, r9_rf (show 1 ≤ 100 from by decide), bIn]
      rfl
  · rw [if_neg e, pz_xb (by decide), if_pos rfl] at hX
    obtain ⟨m, hm⟩ : ∃ m, n = m + 1 := ⟨n - 1, by omega⟩
    obtain ⟨p1, p2⟩ := c2 m (by omega)
    have hHm := c4 m (by omega)
    have wm := hA.2.2.2.2.1 m (by omega)
    have hlt : (nI m < nI 0) = False := pn_lt0 (by omega)
    refine opK_yes (A' := H m) (n' := m) (H' := H) (t' := t) (T' := T) (P' := P) (k' := k) (nI m) ?_ ?_ ?_
    · refine ⟨up2 (pu_cp I 1 (31 + 11 * π m)) 29 1 (nI m), L, r, ?_, ⟨?_, ?_, ⟨π, by omega, up2_eq, c2, c3, ?_⟩, ?_, ?_⟩, ?_⟩
      · show f_L_undo 0 148 (pm I L r) = _
        unfold f_L_undo
        refine xc_in ?_
        rw [hX]
        unfold f_X5_latest f_X5_dropLatest
        simp (disch := omega) only [pR_0_0, pR_0_2, pbs, pO_29, pR_29_0, pI_29_1, c1, plit, hm, mI_def, mI_s, hlt, if_false, pA_30, p2, pO_h hp_1, x4_copyFrom hp_1 (hp_st p1), pu_cp_fr (I := I) (h := 1) (g := 31 + 11 * π m) 29 (by omega), pP_29_1, up2_eq]
      · exact ph_fr (ph_cp hHm wm.1 (by omega)) (fun a a1 a2 => up2_a (by omega))
      · refine cV_le (cV_up h2 (by omega) ?_ ?_) (by omega)
        · rw [up2_ne (by decide), pu_cp_fr 12 (by omega)]
        · rw [up2_ne (by decide), pu_cp_v]
      · intro i hi
        have := (c2 i (by omega)).1
        exact ph_fr (c4 i (by omega)) (fun a a1 a2 => by rw [up2_a (by omega), pu_cp_fr a (by omega)])
      · exact cT_fr h4 (fun a ha => by rw [up2_a (by omega), pu_cp_fr a (by omega)])
      · exact cP_fr h5 (fun a a1 a2 => by rw [up2_a (by omega), pu_cp_fr a (by omega)])
      · intro a a1 a2
        exact ⟨by rw [up2_a (by omega), pu_cp_fr a (by omega)], rfl⟩
    · intro J K r' hJ
      have hrow := hJ.2.2.1 m (by omega)
      refine ⟨pu_rng (up2 (up2 J 130 4 (nI 0)) 130 3 (nI m)) 131 0 552 (fun j => J 132 (552 * m + j)), K, ?_, ?_, ⟨?_, ?_, ?_, ⟨?_, ?_⟩, ?_⟩, ?_⟩
      · have e0 : (nI (m + 1) = nI 0) = False := by
          rw [pn_eq (by omega) (by omega)]
          exact eq_false (by omega)
        unfold f_X9_undo f_X9_undo_b13
        simp (disch := omega) only [pI_130_3, pbs, hJ.2.1, hm, plit, e0, if_false, pO_130, r9_rf (show 0 ≤ 100 from by decide), bIn, ne_eq, not_true, decide_false, if_true, up2_nj, mI_def, mI_s, pP_130_3]
        have hl := pm_seq (fun q (a : Nat → Nat → Int32) i => f_X9_undo_b33 q 130 (nI i) (pm a K r')) (fun i => pu_rng (up2 (up2 J 130 4 (nI 0)) 130 3 (nI m)) 131 0 i (fun j => J 132 (552 * m + j))) 552 (out := some (nI m, pm (pu_rng (up2 (up2 J 130 4 (nI 0)) 130 3 (nI m)) 131 0 552 (fun j => J 132 (552 * m + j))) K r')) (by
          intro q i hi
          have hu := pu_rng_up (up2 (up2 J 130 4 (nI 0)) 130 3 (nI m)) 131 0 i (fun j => J 132 (552 * m + j))
          rw [Nat.zero_add] at hu
          simp (disch := omega) only [f_X9_undo_b33, plit, pn_le, pR_130_0, pR_130_1, pI_130_3, pbs, pu_rng_ne, up2_eq, up2_ne, pk_mul, nI_add, pA_132, pS_131]
          rw [if_neg (show ¬ 552 ≤ i from by omega), hu]) (by
          intro q
          simp (disch := omega) only [f_X9_undo_b33, plit, pn_le, Nat.le_refl, if_true, pI_130_3, pbs, pu_rng_ne, up2_eq]) hb_FU (by decide)
        rw [pu_rng_0] at hl
        exact hl
      · rw [pu_rng_ne (by decide), up2_nj (by decide), up2_eq]
      · exact pr_cong hrow (fun j hj => by rw [pu_rng_in (by omega) (by omega), Nat.sub_zero])
      · rw [pu_rng_ne (by decide), up2_eq]
      · intro i hi
        refine pr_cong (hJ.2.2.1 i (by omega)) (fun j hj => ?_)
        rw [pu_rng_ne (by decide), up2_ne (by decide), up2_ne (by decide)]
      · rw [pu_rng_ne (by decide), up2_nj (by decide), up2_nj (by decide)]
        exact hJ.2.2.2.1.1
      · intro j hj
        rw [pu_rng_ne (by decide), up2_ne (by decide), up2_ne (by decide)]
        exact hJ.2.2.2.1.2 j hj
      · exact mP_fr hJ.2.2.2.2 (fun a a1 a2 => by funext j; rw [pu_rng_ne (by omega), up2_ne (by omega), up2_ne (by omega)])
      · intro a ha
        exact ⟨by funext j; rw [pu_rng_ne (by omega), up2_ne (by omega), up2_ne (by omega)], rfl⟩
    · obtain ⟨a0, a1, a2, a3, a4, a5⟩ := hA
      exact ⟨hB, wm.1, by omega, by omega, fun i hi => ⟨(a4 i (by omega)).1, by have := (a4 i (by omega)).2; omega⟩, a5⟩
set_option maxRecDepth 8192 in
theorem od_clearText (hC : cS I L r A n H t T P k B) (hA : aS A n H t T P k B) (hB : B + 1000 < 2 ^ 29) : opD (fun σ => f_X8_clearText 0 σ) (fun σ => f_X9_clearText 130 σ) I L r A n H t T P k B := by
  obtain ⟨h1, h2, ⟨π, h3⟩, h4, h5⟩ := hC
  refine ⟨nI t, A, n, H, 0, T, P, k, ⟨up2 I 97 1 (nI 0), L, r, ?_, ⟨ph_fr h1 (fun a _ _ => up2_a (by omega)), cV_le (cV_fr h2 (fun a _ => ⟨up2_a (by omega), rfl⟩)) (by omega), ⟨π, cH_fr h3 (fun _ _ => rfl) (fun a _ _ => up2_a (by omega))⟩, ⟨up2_eq, fun j hj => absurd hj (Nat.not_lt_zero j)⟩, cP_fr h5 (fun a _ _ => up2_a (by omega))⟩, fun a _ _ => ⟨up2_a (by omega), rfl⟩⟩, ?_, ?_⟩
  · unfold f_X8_clearText
    simp only [pR_0_3, pbs, pI_97_1, h4.1, pP_97_1, plit]
  · intro J K r' hJ
    refine ⟨up2 (up2 J 130 4 (nI 0)) 130 6 (nI 0), K, ?_, ?_, fun a ha => ⟨by rw [up2_a (by omega), up2_a (by omega)], rfl⟩⟩
    · unfold f_X9_clearText
      simp (disch := omega) only [plit, pP_130_4, pbs, pI_130_6, up2_nj, hJ.2.2.2.1.1, pP_130_6]
    · obtain ⟨m1, m2, m3, m4, m5⟩ := hJ
      refine ⟨by rw [up2_a (by decide), up2_a (by decide)]; exact m1, by rw [up2_nj (by decide), up2_nj (by decide)]; exact m2, fun i hi => by rw [up2_a (by decide), up2_a (by decide)]; exact m3 i hi, ⟨up2_eq, fun j hj => absurd hj (Nat.not_lt_zero j)⟩, mP_fr m5 (fun a _ _ => by rw [up2_a (by omega), up2_a (by omega)])⟩
  · obtain ⟨a0, a1, a2, a3, a4, a5, a6, a7⟩ := aS_le hA (show B ≤ B + 1000 from by omega) hB
    exact ⟨a0, a1, a2, a3, a4, by omega, fun j hj => absurd hj (Nat.not_lt_zero j), a7⟩
set_option maxRecDepth 8192 in
theorem ok_append (x : Int32) (hC : cS I L r A n H t T P k B) (hA : aS A n H t T P k B) (hB : B + 1000 < 2 ^ 29) : opK (fun σ => f_L_append 0 x 148 σ) (fun σ => f_X9_append 130 x σ) Int32.toInt64 I L r A n H t T P k B := by
  obtain ⟨h1, h2, ⟨π, h3⟩, h4, h5⟩ := hC
  have hC : cS I L r A n H t T P k B := ⟨h1, h2, ⟨π, h3⟩, h4, h5⟩
  have ht := hA.2.2.2.2.2.1
  have hX : f_X8_append 0 x (pm I L r) = hb_xb (f_X8_refuse (nI (if (pn_at 128 x).isSome then 0 else 2)) (pm I L r)) fun v1 r1 => (hb_getR r1 0 8 3).bind fun r2 => (hb_getI r1 r2 7 1).bind fun r3 => if (100 : Int32) ≤ r3 then f_X8_append_b35 0 x (3 : Int32) r1 else f_X8_append_b35 0 x (0 : Int32) r1 := by
    unfold f_X8_append f_X8_append_b14 f_X8_append_b15
    simp only [plit, pn_rng (show 127 + 1 < 2 ^ 31 from by decide)]
    cases (pn_at (127 + 1) x).isSome <;> rfl
  cases e : pn_at 128 x with
  | none =>
    rw [e] at hX
    simp only [Option.isSome_none, Bool.false_eq_true, if_false] at hX
    rw [pz_xb (by decide), if_neg (by decide)] at hX
    refine opK_rf (nI 0) (c := 1) (by decide) (by decide) ?_ ?_ hC hA hB
    · show f_L_append 0 x 148 (pm I L r) = _
      unfold f_L_append
      rw [xc_ex hX]
      exact if_pos rfl
    · intro J K r' hJ
      show f_X9_append 130 x (pm J K r') = _
      unfold f_X9_append f_X9_append_b29
      simp only [plit, pO_130, pbs, r9_in (show 127 + 1 < 2 ^ 31 from by decide), show pn_at (127 + 1) x = none from e, Option.isSome_none, bIn, if_true, r9_rf (show 1 ≤ 100 from by decide)]
      rfl
  | some v =>
    obtain ⟨hv, hx⟩ := pn_at_some (by omega) e
    subst hx
    rw [e] at hX
    simp only [Option.isSome_some, if_true] at hX
    rw [pz_xb (by decide), if_pos rfl] at hX
    unfold f_X8_append_b35 at hX
    simp (disch := omega) only [pR_0_3, pbs, pI_97_1, h4.1, plit, pn_le, pz_xb (show 0 ≤ 3 from by decide), pz_xb (show 3 ≤ 3 from by decide), if_true, show ¬ (3 : Nat) = 0 from by decide, if_false] at hX
    by_cases e1 : t = 100
    · rw [if_pos (show 100 ≤ t from by omega)] at hX
      refine opK_rf (nI 0) (c := 2) (by decide) (by decide) ?_ ?_ hC hA hB
      · show f_L_append 0 (nI v) 148 (pm I L r) = _
        unfold f_L_append
        rw [xc_ex hX]
        exact (if_neg pe_32).trans (if_pos rfl)
      · intro J K r' hJ
        show f_X9_append 130 (nI v) (pm J K r') = _
        unfold f_X9_append f_X9_append_b29
        simp (disch := omega) only [plit, pO_130, pbs, r9_in (show 127 + 1 < 2 ^ 31 from by decide), show pn_at (127 + 1) (nI v) = some v from e, Option.isSome_some, bIn, Bool.true_eq_false, if_false, pI_130_6, hJ.2.2.2.1.1, pn_eq, e1, if_true, r9_rf (show 2 ≤ 100 from by decide)]
        rfl
    · rw [if_neg (show ¬ 100 ≤ t from by omega)] at hX
      have hT : ∀ (J : Nat → Nat → Int32) (a : Nat), (∀ j, j < t → J a j = nI (T j)) → ∀ j, j < t + 1 → up2 J a t (nI v) a j = nI (up1 T t v j) := by
        intro J a hJ j hj
        unfold up1
        by_cases e2 : j = t
        · rw [if_pos e2, e2, up2_eq]
        · rw [if_neg e2, up2_nj e2]
          exact hJ j (by omega)
      refine opK_yes (A' := A) (n' := n) (H' := H) (t' := t + 1) (T' := up1 T t v) (P' := P) (k' := k) (nI (t + 1)) ?_ ?_ ?_
      · refine ⟨up2 (up2 I 98 t (nI v)) 97 1 (nI (t + 1)), L, r, ?_, ⟨ph_fr h1 (fun a _ _ => by rw [up2_a (by omega), up2_a (by omega)]), cV_le (cV_fr h2 (fun a _ => ⟨by rw [up2_a (by omega), up2_a (by omega)], rfl⟩)) (by omega), ⟨π, cH_fr h3 (fun _ _ => rfl) (fun a _ _ => by rw [up2_a (by omega), up2_a (by omega)])⟩, ⟨up2_eq, ?_⟩, cP_fr h5 (fun a _ _ => by rw [up2_a (by omega), up2_a (by omega)])⟩, fun a _ _ => ⟨by rw [up2_a (by omega), up2_a (by omega)], rfl⟩⟩
        · show f_L_append 0 (nI v) 148 (pm I L r) = _
          unfold f_L_append
          refine xc_in ?_
          rw [hX]
          unfold f_X7_add
          simp (disch := omega) only [pO_97, pI_97_1, pbs, h4.1, plit, pn_le, pR_97_0, pS_98, up2_ne, pP_97_1, nI_add, up2_eq]
          rw [if_neg (show ¬ 100 ≤ t from by omega)]
          simp (disch := omega) only [pbs, pI_97_1, up2_eq, pR_0_3]
        · intro j hj
          rw [up2_ne (by decide)]
          exact hT I 98 h4.2 j hj
      · intro J K r' hJ
        obtain ⟨m1, m2, m3, m4, m5⟩ := hJ
        refine ⟨up2 (up2 (up2 J 130 4 (nI 0)) 134 t (nI v)) 130 6 (nI (t + 1)), K, ?_, ?_, ⟨?_, ?_, ?_, ⟨up2_eq, ?_⟩, ?_⟩, ?_⟩
        · unfold f_X9_append f_X9_append_b29
          simp (disch := omega) only [plit, pO_130, pbs, r9_in (show 127 + 1 < 2 ^ 31 from by decide), show pn_at (127 + 1) (nI v) = some v from e, Option.isSome_some, bIn, Bool.true_eq_false, if_false, pI_130_6, m4.1, pn_eq, e1, r9_rf (show 0 ≤ 100 from by decide), ne_eq, not_true, decide_false, if_true, pR_130_5, pS_134, up2_nj, up2_ne, pP_130_6, nI_add, up2_eq]
        · rw [up2_nj (by decide), up2_ne (by decide), up2_eq]
        · rw [up2_a (by decide), up2_a (by decide), up2_a (by decide)]
          exact m1
        · rw [up2_nj (by decide), up2_ne (by decide), up2_nj (by decide)]
          exact m2
        · intro i hi
          rw [up2_a (by decide), up2_a (by decide), up2_a (by decide)]
          exact m3 i hi
        · intro j hj
          rw [up2_ne (by decide)]
          exact hT _ 134 (fun j hj => by rw [up2_ne (by decide)]; exact m4.2 j hj) j hj
        · exact mP_fr m5 (fun a _ _ => by rw [up2_a (by omega), up2_a (by omega), up2_a (by omega)])
        · intro a ha
          exact ⟨by rw [up2_a (by omega), up2_a (by omega), up2_a (by omega)], rfl⟩
      · obtain ⟨a0, a1, a2, a3, a4, a5, a6, a7⟩ := aS_le hA (show B ≤ B + 1000 from by omega) hB
        refine ⟨a0, a1, a2, a3, a4, by omega, fun j hj => ?_, a7⟩
        unfold up1
        split
        · exact hv
        · exact a6 j (by omega)
end OP4
