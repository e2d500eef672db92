/-! more calls that change the heap or the text; undo -/
section OP3
variable {I J : Nat → Nat → Int32} {L K : Nat → Nat → Int64} {r : Nat → Option Nat} {A : Nat → Nat → Nat} {n : Nat} {H : Nat → Nat → Nat → Nat} {t : Nat} {T : Nat → Nat} {P : Nat → Nat → Nat → Nat} {k : Nat → Bool} {B : Nat}
set_option maxRecDepth 8192 in
theorem xc_inb {f : Option ((String ⊕ Int32) × hb_M)} {v : Int32} {r' : Nat → Option Nat} {kE : String → hb_M → Option (Int32 × hb_M)} (h : f = some (.inr v, pm J K r')) : (hb_xc (hb_on (pm I L r) 0 8 f) kE fun v1 r1 => if v1 = 0 then (hb_last r1 148 (0 : Int32) (0 : Int64)).bind fun r2 => some ((0 : Int32), r2) else (hb_last r1 148 (0 : Int32) (1 : Int64)).bind fun r2 => some ((0 : Int32), r2)) = some (nI 0, pm J (up2 K 148 0 (pw_b v)) r') := by
  rw [pO_0, h, xc_r, show (0 : Int32) = nI 0 from rfl, pS_148 (by decide), pS_148 (by decide)]
  unfold pw_b
  simp only [plit]
  by_cases e : v = nI 0
  · rw [if_pos e, if_pos e]
    rfl
  · rw [if_neg e, if_neg e]
    rfl
set_option maxRecDepth 8192 in
theorem ok_isSubclass (x y : Int32) (hC : cS I L r A n H t T P k B) (hA : aS A n H t T P k B) (hB : B + 1000 < 2 ^ 29) : opK (fun σ => f_L_isSubclass 0 x y 148 σ) (fun σ => f_X9_isSubclass 130 x y σ) pw_b I L r A n H t T P k B := by
  have w := hA.2.1
  have h10 := pa_cc10 w
  have hX : f_X8_isSubclass 0 x y (pm I L r) = if (pa_isC A x && pa_isC A y) = true then ((f_X4_isBelow 1 x y (pm I L r)).bind fun r3 => if r3.1 = 0 ∨ r3.1 = 1 then some (.inr r3.1, r3.2) else none) else some (.inl hb_e1, pm I L r) := by
    unfold f_X8_isSubclass f_X8_isSubclass_b26 f_X8_isSubclass_b27
    simp only [pR_0_0, pbs, pO_h hp_1, x4_hasClass hp_1 hC.1 w, plit, bIn]
    rw [← bI_f, ← bI_t, pz_xu, pz_xu]
    cases pa_isC A x <;> cases pa_isC A y <;> simp [pR_0_0, pbs, pO_h hp_1]
  cases e : pa_isC A x && pa_isC A y
  · rw [e] at hX
    refine opK_rf (nI 0) (c := 1) (by decide) (by decide) ?_ ?_ hC hA hB
    · show f_L_isSubclass 0 x y 148 (pm I L r) = _
      unfold f_L_isSubclass
      rw [xc_ex hX]
      exact if_pos rfl
    · intro J K r' hJ
      show f_X9_isSubclass 130 x y (pm J K r') = _
      unfold f_X9_isSubclass f_X9_isSubclass_b21 f_X9_isSubclass_b22
      simp only [plit, pO_130, pbs, r9_isClass hJ.1 w, bIn, r9_rf (show 1 ≤ 100 from by decide), r9_rf (show 0 ≤ 100 from by decide)]
      cases e1 : pa_isC A x
      · rfl
      · rw [e1] at e
        simp only [Bool.true_and] at e
        rw [e]
        rfl
  · simp only [Bool.and_eq_true] at e
    rw [e.1, e.2] at hX
    have e1 := e.1
    have e2 := e.2
    unfold pa_isC at e1 e2
    obtain ⟨c, hc0⟩ := Option.isSome_iff_exists.mp e1
    obtain ⟨d, hd0⟩ := Option.isSome_iff_exists.mp e2
    obtain ⟨hc, hx⟩ := pn_at_some (by omega) hc0
    obtain ⟨hd, hy⟩ := pn_at_some (by omega) hd0
    subst hx
    subst hy
    have hb : pa_below A c d = pa_bl A hb_FU (c + 1) d := by
      unfold pa_below
      rw [pa_bl_fuel w d 11 hb_FU (c + 1) (by omega) (by omega) (Nat.lt_of_lt_of_le (show c + 1 < 12 from by omega) (by decide))]
      simp [hc]
    refine opK_ask (bI (pa_below A c d)) ⟨I, L, ?_, hC, fun _ _ _ => ⟨rfl, rfl⟩⟩ ?_ hA hB
    · show f_L_isSubclass 0 (nI c) (nI d) 148 (pm I L r) = _
      unfold f_L_isSubclass f_L_isSubclass_b16
      refine xc_inb ?_
      rw [hX]
      simp (disch := omega) only [Bool.and_self, if_true, x4_isBelow hp_1 hC.1 w, pbs]
      exact if_pos (bI01 _)
    · intro J K r' hJ
      refine ⟨_, K, ?_, up2_eq, mK_rf (x := nI 0), mO_rf⟩
      unfold f_X9_isSubclass f_X9_isSubclass_b21 f_X9_isSubclass_b22
      simp only [plit, pO_130, pbs, r9_isClass hJ.1 w, bIn, e.1, e.2, Bool.true_eq_false, if_false, r9_rf (show 0 ≤ 100 from by decide), r9_isBelow (mS_row (mS_fr hJ mK_rf)) w hc (show d < 2 ^ 31 from by omega), hb]
      cases pa_bl A hb_FU (c + 1) d <;> rfl
set_option maxRecDepth 8192 in
theorem ok_defineClass (x y z : Int32) (hC : cS I L r A n H t T P k B) (hA : aS A n H t T P k B) (hB : B + 1000 < 2 ^ 29) : opK (fun σ => f_L_defineClass 0 x y z 148 σ) (fun σ => f_X9_defineClass 130 x y z σ) Int32.toInt64 I L r A n H t T P k B := by
  have w := hA.2.1
  have h10 := pa_cc10 w
  have hX : f_X8_defineClass 0 x y z (pm I L r) = hb_xb (f_X8_refuse (nI (pz_cls A x y z)) (pm I L r)) fun v3 r3 => (hb_getR r3 0 8 2).bind fun r4 => (hb_getR r3 0 8 0).bind fun r5 => (hb_on r3 r4 5 (f_X5_save r4 r5 r3)).bind fun r6 => (hb_getR r6 0 8 0).bind fun r7 => (hb_on r6 r7 4 (f_X4_addClass r7 x y z r6)).bind fun r8 => some (.inr r8.1, r8.2) := by
    unfold f_X8_defineClass
    simp only [pR_0_0, pbs, pO_h hp_1, x4_pClass hp_1 hC.1 w]
  rw [pz_xb (pz_cls_le A x y z)] at hX
  have hR : ∀ (J : Nat → Nat → Int32) (K : Nat → Nat → Int64) (r' : Nat → Option Nat), mS J A n H t T P k → f_X9_defineClass 130 x y z (pm J K r') = f_X9_defineClass_b84 130 x y z 130 (nI (pz_cls A x y z)) (pm J K r') := by
    intro J K r' hJ
    unfold f_X9_defineClass f_X9_defineClass_b46 f_X9_defineClass_b47 pz_cls
    simp only [plit, pO_130, pbs, r9_isClass hJ.1 w, bIn, r9_in (show 3 + 1 < 2 ^ 31 from by decide), r9_in (show 40 + 1 < 2 ^ 31 from by decide)]
    unfold pa_isC
    cases e : pn_at (A 40 0) x with
    | none => rfl
    | some c =>
      obtain ⟨hc, hx⟩ := pn_at_some (by omega) e
      subst hx
      have h5 := pa_fo_le w hc
      cases e1 : pn_at (3 + 1) y with
      | none => rfl
      | some f =>
        obtain ⟨hf, hy⟩ := pn_at_some (by omega) e1
        subst hy
        cases e2 : pn_at (40 + 1) z with
        | none => rfl
        | some d =>
          simp (disch := omega) only [Option.isSome_some, Bool.true_eq_false, if_false, pbs, pO_130, pR_130_0, pA_131, pS_131, plit, nI_add, pk_mul, pn_le, pn_lt, if_true, if_false, reduceIte, r9_fieldsOf hJ.1 w hc, hJ.1.1, pn_eq, show ¬ (1 : Nat) = 0 from by decide]
          by_cases e3 : pa_fo A c + f ≤ 5
          · rw [if_neg (by omega), if_pos e3]
            by_cases e4 : A 40 0 < 10
            · rw [if_neg (by omega), if_pos e4]
            · rw [if_pos (by omega), if_neg e4]
          · rw [if_pos (by omega), if_neg e3]
  by_cases e0 : pz_cls A x y z = 0
  · rw [if_pos e0] at hX
    have e9 := e0
    unfold pz_cls at e9
    cases e : pn_at (A 40 0) x with
    | none => rw [e] at e9; cases e9
    | some c =>
      obtain ⟨hc, hx⟩ := pn_at_some (by omega) e
      subst hx
      rw [e] at e9
      cases e1 : pn_at 4 y with
      | none => rw [e1] at e9; cases e9
      | some f =>
        obtain ⟨hf, hy⟩ := pn_at_some (by omega) e1
        subst hy
        rw [e1] at e9
        cases e2 : pn_at 41 z with
        | none => rw [e2] at e9; cases e9
        | some d =>
          obtain ⟨hd, hz⟩ := pn_at_some (by omega) e2
          subst hz
          rw [e2] at e9
          have e3 : pa_fo A c + f ≤ 5 := by
            apply Classical.byContradiction
            intro h
            simp [h] at e9
          have e4 : A 40 0 < 10 := by
            apply Classical.byContradiction
            intro h
            simp [e3, h] at e9
          refine opK_mut (A' := pa_cls A c f d) (nI (A 40 0)) ?_ ?_ (pa_wf_cls w hc e4 (by omega) (by omega) e3) (by
            have := hA.2.2.1
            rw [show pa_cls A c f d 40 1 = A 40 1 from by simp [pa_cls]]
            omega) hC hA hB
          · intro J r' g1 g2
            refine ⟨_, ?_, ph_cls (f := f) (d := d) g2 w hc e4, ?_, ?_⟩
            · show f_L_defineClass 0 (nI c) (nI f) (nI d) 148 (pm I L r) = _
              unfold f_L_defineClass
              refine xc_in ?_
              rw [hX]
              simp only [pR_0_0, pR_0_2, pbs, pO_29, g1, pO_h hp_1, x4_addClass hp_1 g2 w hc e4]
            · unfold pu_cls
              rw [up2_eq]
            · intro a ha
              unfold pu_cls
              simp (disch := omega) only [up2_a]
          · intro J K r' J1 g1 g2 g3
            refine ⟨_, ?_, pr_cls (f := f) (d := d) (c := c) g3 w e4, ?_⟩
            · show f_X9_defineClass 130 (nI c) (nI f) (nI d) (pm J K r') = _
              rw [hR J K r' g2, e0]
              unfold f_X9_defineClass_b84
              simp (disch := omega) only [pbs, pO_130, pR_130_0, pA_131, pS_131, plit, nI_add, pk_mul, pn_le, pn_lt, if_true, if_false, reduceIte, r9_rf (show 0 ≤ 100 from by decide), bIn, ne_eq, not_true, decide_false, g1, g3.1, up2_nj]
              rfl
            · intro a ha
              unfold pv_cls
              simp (disch := omega) only [up2_a]
  · rw [if_neg e0] at hX
    refine opK_rf (nI 0) (c := pz_cls A x y z) (pz_cls_le A x y z) e0 ?_ ?_ hC hA hB
    · show f_L_defineClass 0 x y z 148 (pm I L r) = _
      unfold f_L_defineClass
      rw [xc_ex hX]
      have hle := pz_cls_le A x y z
      generalize pz_cls A x y z = m at e0 hle
      match m, e0, hle with
      | 1, _, _ => rfl
      | 2, _, _ => rfl
      | 3, _, _ => rfl
    · intro J K r' hJ
      show f_X9_defineClass 130 x y z (pm J K r') = _
      rw [hR J K r' hJ]
      unfold f_X9_defineClass_b84
      simp only [plit, pO_130, pbs, r9_rf (show pz_cls A x y z ≤ 100 from Nat.le_trans (pz_cls_le A x y z) (by decide)), bIn]
      rw [if_neg (by simp [e0])]
set_option maxRecDepth 8192 in
theorem r9_setRef (hN : pr_row (I 131) A) (w : pa_wf A) (x y z : Int32) : f_X9_setRefusal 130 x y z (pm I L r) = some (nI (pz_set A x y z), pm I L r) := by
  unfold f_X9_setRefusal pz_set
  simp only [plit, pO_130, pbs, r9_isSlot hN w, r9_isObject hN w, bIn]
  cases pa_isS A x y
  · simp
  · by_cases e : z = -nI 1
    · simp [e]
    · cases pa_isO A z <;> simp [e]
set_option maxRecDepth 8192 in
theorem pa_isS_ex {x y : Int32} (h : pa_isS A x y = true) (w : pa_wf A) : ∃ o s, o < 40 ∧ A o 0 ≠ 0 ∧ s < A o 2 ∧ x = nI o ∧ y = nI s := by
  unfold pa_isS at h
  cases e : pn_at 40 x with
  | none => rw [e] at h; cases h
  | some o =>
    obtain ⟨ho, hx⟩ := pn_at_some (by omega) e
    rw [e] at h
    simp only [Bool.and_eq_true] at h
    have ha : A o 0 ≠ 0 := by simpa [pa_al] using h.1
    have h8 := pa_sl8 w ho ha
    obtain ⟨s, hs0⟩ := Option.isSome_iff_exists.mp h.2
    obtain ⟨hs, hy⟩ := pn_at_some (by omega) hs0
    exact ⟨o, s, ho, ha, hs, hx, hy⟩
set_option maxRecDepth 8192 in
theorem pa_isO_ex {x : Int32} (h : pa_isO A x = true) : ∃ o, o < 40 ∧ A o 0 ≠ 0 ∧ x = nI o := by
  unfold pa_isO at h
  cases e : pn_at 40 x with
  | none => rw [e] at h; cases h
  | some o =>
    obtain ⟨ho, hx⟩ := pn_at_some (by omega) e
    rw [e] at h
    exact ⟨o, ho, by simpa [pa_al] using h, hx⟩
set_option maxRecDepth 8192 in
theorem ok_set (x y z : Int32) (hC : cS I L r A n H t T P k B) (hA : aS A n H t T P k B) (hB : B + 1000 < 2 ^ 29) : opK (fun σ => f_L_set 0 x y z 148 σ) (fun σ => f_X9_set 130 x y z σ) Int32.toInt64 I L r A n H t T P k B := by
  have w := hA.2.1
  have hX : f_X8_set 0 x y z (pm I L r) = hb_xb (f_X8_refuse (nI (pz_set A x y z)) (pm I L r)) fun v3 r3 => (hb_getR r3 0 8 2).bind fun r4 => (hb_getR r3 0 8 0).bind fun r5 => (hb_on r3 r4 5 (f_X5_save r4 r5 r3)).bind fun r6 => (hb_getR r6 0 8 0).bind fun r7 => (hb_on r6 r7 4 (f_X4_putTarget r7 x y z r6)).bind fun r8 => some (.inr r8.1, r8.2) := by
    unfold f_X8_set
    simp only [pR_0_0, pbs, pO_h hp_1, x4_pTarget hp_1 hC.1 w]
  rw [pz_xb (pz_set_le A x y z)] at hX
  cases e : pa_isS A x y && (decide (z = -nI 1) || pa_isO A z)
  · have e1 : pz_set A x y z = 1 := by unfold pz_set; rw [e]; rfl
    rw [e1, if_neg (by decide)] at hX
    refine opK_rf (nI 0) (c := 1) (by decide) (by decide) ?_ ?_ hC hA hB
    · show f_L_set 0 x y z 148 (pm I L r) = _
      unfold f_L_set
      rw [xc_ex hX]
      exact if_pos rfl
    · intro J K r' hJ
      show f_X9_set 130 x y z (pm J K r') = _
      unfold f_X9_set
      simp only [pO_130, pbs, r9_setRef hJ.1 w, e1, r9_rf (show 1 ≤ 100 from by decide), plit, bIn]
      rfl
  · have e1 : pz_set A x y z = 0 := by unfold pz_set; rw [e]; rfl
    rw [e1, if_pos rfl] at hX
    simp only [Bool.and_eq_true, Bool.or_eq_true, decide_eq_true_eq] at e
    obtain ⟨o, s, ho, ha, hs, hx, hy⟩ := pa_isS_ex e.1 w
    subst hx
    subst hy
    have h8 := pa_sl8 w ho ha
    obtain ⟨v, hv, hv2, hz⟩ : ∃ v, v ≤ 40 ∧ (v ≠ 0 → A (v - 1) 0 ≠ 0) ∧ z = mI v := by
      rcases e.2 with h | h
      · exact ⟨0, by omega, fun h => absurd rfl h, by rw [h, mI_0]⟩
      · obtain ⟨q, hq, hqa, hz⟩ := pa_isO_ex h
        exact ⟨q + 1, by omega, fun _ => hqa, by rw [hz, mI_s]⟩
    subst hz
    refine opK_mut (A' := up2 A o (5 + s) v) (mI (A o (5 + s))) ?_ ?_ (pa_wf_set w ho ha hs hv hv2) (by
      have := hA.2.2.1
      rw [up2_ne (by omega)]
      omega) hC hA hB
    · intro J r' g1 g2
      refine ⟨_, ?_, ph_set (v := v) g2 (J 1 12 + nI 1) ho ha (by omega), up2_eq, ?_⟩
      · show f_L_set 0 (nI o) (nI s) (mI v) 148 (pm I L r) = _
        unfold f_L_set
        refine xc_in ?_
        rw [hX]
        simp only [pR_0_0, pR_0_2, pbs, pO_29, g1, pO_h hp_1, x4_putTarget hp_1 g2 w ho ha hs]
      · intro a ha
        rw [up2_a (by omega), up2_a (by omega)]
    · intro J K r' J1 g1 g2 g3
      have h5 := (g3.2.2.2 o ho).2 s (by omega)
      refine ⟨_, ?_, pr_set (v := v) g3 ho (by omega), fun a ha => up2_a ha⟩
      show f_X9_set 130 (nI o) (nI s) (mI v) (pm J K r') = _
      unfold f_X9_set
      simp (disch := omega) only [pbs, pO_130, pR_130_0, pA_131, pS_131, plit, nI_add, pk_mul, pn_le, pn_lt, if_true, if_false, reduceIte, r9_setRef g2.1 w, e1, r9_rf (show 0 ≤ 100 from by decide), bIn, ne_eq, not_true, decide_false, g1, r9_at, h5]
set_option maxRecDepth 8192 in
theorem ok_get (x y : Int32) (hC : cS I L r A n H t T P k B) (hA : aS A n H t T P k B) (hB : B + 1000 < 2 ^ 29) : opK (fun σ => f_L_get 0 x y 148 σ) (fun σ => f_X9_get 130 x y σ) Int32.toInt64 I L r A n H t T P k B := by
  have w := hA.2.1
  have hX : f_X8_get 0 x y (pm I L r) = hb_xb (f_X8_refuseUnless (bI (pa_isS A x y)) (pm I L r)) fun v3 r3 => (hb_getR r3 0 8 0).bind fun r4 => (hb_on r3 r4 4 (f_X4_targetOf r4 x y r3)).bind fun r5 => some (.inr r5.1, r5.2) := by
    unfold f_X8_get
    simp only [pR_0_0, pbs, pO_h hp_1, x4_hasSlot hp_1 hC.1 w]
  rw [pz_xu] at hX
  cases e : pa_isS A x y
  · rw [e] at hX
    refine opK_rf (nI 0) (c := 1) (by decide) (by decide) ?_ ?_ hC hA hB
    · show f_L_get 0 x y 148 (pm I L r) = _
      unfold f_L_get
      rw [xc_ex hX]
      exact if_pos rfl
    · intro J K r' hJ
      show f_X9_get 130 x y (pm J K r') = _
      unfold f_X9_get f_X9_get_b15
      simp only [pO_130, pbs, r9_isSlot hJ.1 w, e, bIn, r9_rf (show 1 ≤ 100 from by decide), plit]
      rfl
  · rw [e] at hX
    obtain ⟨o, s, ho, ha, hs, hx, hy⟩ := pa_isS_ex e w
    subst hx
    subst hy
    have h8 := pa_sl8 w ho ha
    refine opK_ask (mI (A o (5 + s))) ⟨I, L, ?_, hC, fun _ _ _ => ⟨rfl, rfl⟩⟩ ?_ hA hB
    · show f_L_get 0 (nI o) (nI s) 148 (pm I L r) = _
      unfold f_L_get
      refine xc_in ?_
      rw [hX, if_pos rfl]
      simp only [pR_0_0, pbs, pO_h hp_1, x4_target hp_1 hC.1 w ho ha (show s < 8 from by omega)]
    · intro J K r' hJ
      have h5 := (hJ.1.2.2.2 o ho).2 s (by omega)
      refine ⟨_, K, ?_, up2_eq, mK_rf (x := nI 0), mO_rf⟩
      unfold f_X9_get f_X9_get_b15
      simp (disch := omega) only [pbs, pO_130, pR_130_0, pA_131, pS_131, plit, nI_add, pk_mul, pn_le, pn_lt, if_true, if_false, reduceIte, r9_isSlot hJ.1 w, e, bIn, Bool.true_eq_false, r9_rf (show 0 ≤ 100 from by decide), ne_eq, not_true, decide_false, r9_at, up2_ne, h5]
set_option maxRecDepth 8192 in
theorem ok_resizeArray (x y : Int32) (hC : cS I L r A n H t T P k B) (hA : aS A n H t T P k B) (hB : B + 1000 < 2 ^ 29) : opK (fun σ => f_L_resizeArray 0 x y 148 σ) (fun σ => f_X9_resizeArray 130 x y σ) Int32.toInt64 I L r A n H t T P k B := by
  have w := hA.2.1
  have hX : f_X8_resizeArray 0 x y (pm I L r) = hb_xb (f_X8_refuse (nI (pz_len A x y)) (pm I L r)) fun v3 r3 => (hb_getR r3 0 8 2).bind fun r4 => (hb_getR r3 0 8 0).bind fun r5 => (hb_on r3 r4 5 (f_X5_save r4 r5 r3)).bind fun r6 => (hb_getR r6 0 8 0).bind fun r7 => (hb_on r6 r7 4 (f_X4_putLength r7 x y r6)).bind fun r8 => some (.inr r8.1, r8.2) := by
    unfold f_X8_resizeArray
    simp only [pR_0_0, pbs, pO_h hp_1, x4_pLength hp_1 hC.1 w]
  rw [pz_xb (pz_len_le A x y)] at hX
  have hR : ∀ (J : Nat → Nat → Int32) (K : Nat → Nat → Int64) (r' : Nat → Option Nat), mS J A n H t T P k → f_X9_resizeArray 130 x y (pm J K r') = f_X9_resizeArray_b48 130 x y 130 (nI (pz_len A x y)) (pm J K r') := by
    intro J K r' hJ
    unfold f_X9_resizeArray pz_len
    simp only [plit, pO_130, pbs, r9_isObject hJ.1 w, bIn, r9_in (show 8 + 1 < 2 ^ 31 from by decide)]
    unfold pa_isO
    cases e : pn_at 40 x with
    | none => rfl
    | some o =>
      obtain ⟨ho, hx⟩ := pn_at_some (by omega) e
      subst hx
      by_cases ha : A o 0 = 0
      · simp only [pa_al, ha, ne_eq, not_true, decide_false, if_true]
      · have hg := pa_gr w ho ha
        have h1 := (hJ.1.2.2.2 o ho).1 1 (by decide)
        simp only [pa_al, ha, ne_eq, not_false_eq_true, decide_true, Bool.true_eq_false, if_false]
        cases (pn_at (8 + 1) y).isSome
        · rfl
        · simp (disch := omega) only [pbs, pO_130, pR_130_0, pA_131, pS_131, plit, nI_add, pk_mul, pn_le, pn_lt, if_true, if_false, reduceIte, r9_at, h1, pn_eq, Bool.true_eq_false]
          by_cases e3 : A o 1 = 10
          · rw [if_pos e3, if_pos e3]
          · rw [if_neg e3, if_neg e3]
  by_cases e0 : pz_len A x y = 0
  · rw [if_pos e0] at hX
    have e9 := e0
    unfold pz_len at e9
    cases e : pn_at 40 x with
    | none => rw [e] at e9; cases e9
    | some o =>
      obtain ⟨ho, hx⟩ := pn_at_some (by omega) e
      subst hx
      simp only [e] at e9
      have ha : A o 0 ≠ 0 := by
        intro h
        simp [h] at e9
      cases e1 : pn_at 9 y with
      | none => simp [ha, e1] at e9
      | some m =>
        obtain ⟨hm, hy⟩ := pn_at_some (by omega) e1
        subst hy
        have hg : A o 1 = 10 := by
          apply Classical.byContradiction
          intro h
          simp [ha, e1, h] at e9
        refine opK_mut (A' := pa_len A o m) (nI (A o 2)) ?_ ?_ (pa_wf_len w ho ha hg (by omega)) (by
          have := hA.2.2.1
          have h40 : (40 : Nat) ≠ o := by omega
          rw [show pa_len A o m 40 1 = A 40 1 from by simp [pa_len, h40]]
          omega) hC hA hB
        · intro J r' g1 g2
          refine ⟨_, ?_, ph_len (n := m) g2 ho ha hg (by omega), ?_, ?_⟩
          · show f_L_resizeArray 0 (nI o) (nI m) 148 (pm I L r) = _
            unfold f_L_resizeArray
            refine xc_in ?_
            rw [hX]
            simp only [pR_0_0, pR_0_2, pbs, pO_29, g1, pO_h hp_1, x4_putLength hp_1 g2 ho ha (show m ≤ 8 from by omega)]
          · unfold pu_len
            rw [up2_eq]
          · intro a ha
            unfold pu_len
            funext j
            simp (disch := omega) only [up2_ne, pu_es_ne]
        · intro J K r' J1 g1 g2 g3
          have h2 := (g3.2.2.2 o ho).1 2 (by decide)
          refine ⟨_, ?_, pr_len (n := m) g3 ho (by omega), ?_⟩
          · show f_X9_resizeArray 130 (nI o) (nI m) (pm J K r') = _
            rw [hR J K r' g2, e0]
            unfold f_X9_resizeArray_b48
            simp (disch := omega) only [pbs, pO_130, pR_130_0, pA_131, pS_131, plit, nI_add, pk_mul, pn_le, pn_lt, if_true, if_false, reduceIte, r9_rf (show 0 ≤ 100 from by decide), bIn, ne_eq, not_true, decide_false, g1, r9_at, h2]
            have hl := pm_seq (fun q (a : Nat → Nat → Int32) i => f_X9_resizeArray_b87 q 130 (nI o) (nI (A o 2)) (nI (m + i)) (pm a K r')) (fun i => pu_es (up2 J1 131 (32 + 13 * o + 2) (nI m)) 131 (32 + 13 * o + 5 + m) (32 + 13 * o + 5 + m + i)) (8 - m) (out := some (nI (A o 2), pm (pu_es (up2 J1 131 (32 + 13 * o + 2) (nI m)) 131 (32 + 13 * o + 5 + m) (32 + 13 * o + 5 + 8)) K r')) (by
              intro q i hi
              have hu := pu_es_up (up2 J1 131 (32 + 13 * o + 2) (nI m)) 131 (32 + 13 * o + 5 + m) i
              rw [show 32 + 13 * o + 5 + m + i = 32 + 13 * o + 5 + (m + i) from by omega] at hu
              simp (disch := omega) only [f_X9_resizeArray_b87, pbs, pO_130, pR_130_0, pA_131, pS_131, plit, nI_add, pk_mul, pn_le, pn_lt, if_true, if_false, reduceIte, r9_at]
              rw [if_neg (show ¬ 8 ≤ m + i from by omega), show 32 + 13 * o + 5 + m + i = 32 + 13 * o + 5 + (m + i) from by omega, hu]
              rfl) (by
              intro q
              simp (disch := omega) only [f_X9_resizeArray_b87, plit, pn_le]
              rw [if_pos (show 8 ≤ m + (8 - m) from by omega), show 32 + 13 * o + 5 + m + (8 - m) = 32 + 13 * o + 5 + 8 from by omega]) hb_FU (Nat.lt_of_le_of_lt (Nat.sub_le 8 m) (by decide))
            rw [pu_es_0] at hl
            exact hl
          · intro a ha
            funext j
            rw [pu_es_ne ha, up2_ne ha]
  · rw [if_neg e0] at hX
    refine opK_rf (nI 0) (c := pz_len A x y) (pz_len_le A x y) e0 ?_ ?_ hC hA hB
    · show f_L_resizeArray 0 x y 148 (pm I L r) = _
      unfold f_L_resizeArray
      rw [xc_ex hX]
      have hle := pz_len_le A x y
      generalize pz_len A x y = m at e0 hle
      match m, e0, hle with
      | 1, _, _ => rfl
      | 2, _, _ => rfl
      | 3, _, _ => rfl
    · intro J K r' hJ
      show f_X9_resizeArray 130 x y (pm J K r') = _
      rw [hR J K r' hJ]
      unfold f_X9_resizeArray_b48
      simp only [plit, pO_130, pbs, r9_rf (show pz_len A x y ≤ 100 from Nat.le_trans (pz_len_le A x y) (by decide)), bIn]
      rw [if_neg (by simp [e0])]
end OP3
