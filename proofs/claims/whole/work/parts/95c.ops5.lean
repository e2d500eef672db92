/-! calls that ask the analysis -/
section OP5
variable {I J : Nat → Nat → Int32} {L K : Nat → Nat → Int64} {r : Nat → Option Nat} {A : Nat → Nat → Nat} {n : Nat} {H : Nat → Nat → Nat → Nat} {t : Nat} {T : Nat → Nat} {P : Nat → Nat → Nat → Nat} {k : Nat → Bool} {B : Nat}
/-! one thing must be there; then the analysis is asked -/
set_option maxRecDepth 8192 in
theorem opK_obj {fL : hb_M → Option (Int32 × hb_M)} {fX : hb_M → Option ((String ⊕ Int32) × hb_M)} {fM : hb_M → Option (Int32 × hb_M)} (b : Bool) (v : Int32) (cont : hb_M → Option ((String ⊕ Int32) × hb_M)) (hL : ∀ σ, fL σ = hb_xc (hb_on σ 0 8 (fX σ)) (fun E s => if E = hb_e1 then some ((1 : Int32), s) else none) (fun v1 r1 => (hb_last r1 148 (0 : Int32) v1.toInt64).bind fun r2 => some ((0 : Int32), r2))) (hX : fX (pm I L r) = hb_xb (f_X8_refuseUnless (bI b) (pm I L r)) fun _ r3 => (hb_getR r3 0 8 1).bind fun r4 => (hb_on r3 r4 0 (f_X0_refresh r4 r3)).bind cont) (hcont : b = true → ∀ J K, px_an J K A → ph_rep J 1 A → ∃ J2 K2, cont (pm J K r) = some (.inr v, pm J2 K2 r) ∧ ∀ a, (a < 17 ∨ 20 < a) → J2 a = J a ∧ K2 a = K a) (hMno : b = false → ∀ J K r', mS J A n H t T P k → fM (pm J K r') = some (nI 0, pm (up2 J 130 4 (nI 1)) K r')) (hMyes : b = true → ∀ J K r', mS J A n H t T P k → ∃ J' K', fM (pm J K r') = some (v, pm J' K' r') ∧ J' 130 4 = nI 0 ∧ mK J J' ∧ mO J J' K K') (hC : cS I L r A n H t T P k B) (hA : aS A n H t T P k B) (hB : B + 1000 < 2 ^ 29) : opK fL fM Int32.toInt64 I L r A n H t T P k B := by
  rw [pz_xu] at hX
  cases b
  · refine opK_rf (nI 0) (c := 1) (by decide) (by decide) ?_ (hMno rfl) hC hA hB
    rw [hL, xc_ex hX]
    exact if_pos rfl
  · obtain ⟨J, K, e1, e2, e3, e4⟩ := cS_refresh hC hA
    obtain ⟨J2, K2, f1, f2⟩ := hcont rfl J K e3 e2.1
    refine opK_ask v ⟨J2, K2, ?_, cS_fr e2 (fun a _ h => f2 a h), fun a a1 a2 => ⟨by rw [(f2 a (by omega)).1, (e4 a (by omega)).1], by rw [(f2 a (by omega)).2, (e4 a (by omega)).2]⟩⟩ (hMyes rfl) hA hB
    rw [hL]
    refine xc_in ?_
    rw [hX, if_pos rfl]
    simp only [pR_0_1, pbs, pO_12, e1, f1]
/-! the reference: refused, or what is laid -/
set_option maxRecDepth 8192 in
theorem mS_1 (hJ : mS I A n H t T P k) : pr_row (up2 I 130 4 (nI 0) 131) A := mS_row (mS_fr hJ mK_rf)
set_option maxRecDepth 8192 in
theorem ok_objectInfo (x y : Int32) (hC : cS I L r A n H t T P k B) (hA : aS A n H t T P k B) (hB : B + 1000 < 2 ^ 29) : opK (fun σ => f_L_objectInfo 0 x y 148 σ) (fun σ => f_X9_objectInfo 130 x y σ) Int32.toInt64 I L r A n H t T P k B := by
  have w := hA.2.1
  have hX : f_X8_objectInfo 0 x y (pm I L r) = hb_xb (f_X8_refuse (nI (pz_of (pa_isO A x) y 7)) (pm I L r)) fun v4 r4 => (hb_getR r4 0 8 1).bind fun r5 => (hb_on r4 r5 0 (f_X0_refresh r5 r4)).bind fun r6 => if y = (6 : Int32) then (hb_getR r6 0 8 1).bind fun r8 => (hb_getR r6 r8 0 8).bind fun r9 => (hb_iald r6 r9 x).bind fun r10 => some (.inr r10, r6) else if y = (7 : Int32) then (hb_getR r6 0 8 1).bind fun r12 => (hb_getR r6 r12 0 7).bind fun r13 => (hb_iald r6 r13 x).bind fun r14 => some (.inr r14, r6) else (hb_getR r6 0 8 0).bind fun r15 => (hb_on r6 r15 4 (f_X4_objectFact r15 x y r6)).bind fun r16 => some (.inr r16.1, r16.2) := by
    unfold f_X8_objectInfo
    simp (disch := decide) only [pR_0_0, pbs, pO_h hp_1, x4_hasObject hp_1 hC.1 w, show (7 : Int32) = nI 7 from rfl, x8_problemOf]
  rw [pz_xb (pz_of_le _ _ _)] at hX
  have hR : ∀ (J : Nat → Nat → Int32) (K : Nat → Nat → Int64) (r' : Nat → Option Nat), mS J A n H t T P k → f_X9_objectInfo 130 x y (pm J K r') = f_X9_objectInfo_b28 130 x y 130 (nI (pz_of (pa_isO A x) y 7)) (pm J K r') := by
    intro J K r' hJ
    unfold f_X9_objectInfo pz_of
    simp only [plit, pO_130, pbs, r9_isObject hJ.1 w, bIn, r9_in (show 7 + 1 < 2 ^ 31 from by decide)]
    cases pa_isO A x
    · rfl
    · cases (pn_at (7 + 1) y).isSome <;> rfl
  by_cases e0 : pz_of (pa_isO A x) y 7 = 0
  · rw [if_pos e0] at hX
    have e9 := e0
    unfold pz_of at e9
    cases e : pa_isO A x
    · rw [e] at e9; cases e9
    · obtain ⟨o, ho, ha, hx⟩ := pa_isO_ex e
      subst hx
      rw [e] at e9
      cases e2 : pn_at (7 + 1) y with
      | none => rw [e2] at e9; cases e9
      | some q =>
        obtain ⟨hq, hy⟩ := pn_at_some (by omega) e2
        subst hy
        obtain ⟨J, K, g1, g2, g3, g4⟩ := cS_refresh hC hA
        obtain ⟨-, -, -, u4, u5, -, -⟩ := g3.2.2.2.2 o ho
        refine opK_ask (if q = 6 then nI (pa_ou A o 320) else if q = 7 then nI (pa_in A o 320) else nI (pa_of A o q)) ⟨J, K, ?_, g2, fun a a1 a2 => g4 a (by omega)⟩ ?_ hA hB
        · show f_L_objectInfo 0 (nI o) (nI q) 148 (pm I L r) = _
          unfold f_L_objectInfo
          refine xc_in ?_
          rw [hX]
          simp (disch := omega) only [pR_0_1, pR_0_0, pbs, pO_12, g1, plit, pn_eq, pR_12_7, pR_12_8, pA_25, pA_26, u4, u5, pO_h hp_1, x4_objectFact hp_1 g2.1 ho ha]
          split
          · rfl
          · split <;> rfl
        · intro J K r' hJ
          have hN := mS_1 hJ
          have c0 := (hN.2.2.2 o ho).1 0 (by decide)
          have c1 := (hN.2.2.2 o ho).1 1 (by decide)
          have c2 := (hN.2.2.2 o ho).1 2 (by decide)
          have c3 := (hN.2.2.2 o ho).1 3 (by decide)
          have c4 := (hN.2.2.2 o ho).1 4 (by decide)
          refine ⟨_, K, ?_, up2_eq, mK_rf (x := nI 0), mO_rf⟩
          show f_X9_objectInfo 130 (nI o) (nI q) (pm J K r') = _
          rw [hR J K r' hJ, e0]
          unfold f_X9_objectInfo_b28 f_X9_objectBy pa_of
          simp (disch := omega) only [pbs, pO_130, pR_130_0, pA_131, pS_131, plit, nI_add, pk_mul, pn_le, pn_lt, if_true, if_false, reduceIte, r9_rf (show 0 ≤ 100 from by decide), bIn, ne_eq, not_true, decide_false, pn_eq, r9_at, c0, c1, c2, c3, c4, r9_sizeOf hN w ho ha, r9_from hN w ho ha, r9_to hN w ho]
          match q, hq with
          | 0, _ => rfl
          | 1, _ => rfl
          | 2, _ => rfl
          | 3, _ => rfl
          | 4, _ => rfl
          | 5, _ => rfl
          | 6, _ => rfl
          | 7, _ => rfl
  · rw [if_neg e0] at hX
    refine opK_rf (nI 0) (c := pz_of (pa_isO A x) y 7) (pz_of_le _ _ _) e0 ?_ ?_ hC hA hB
    · show f_L_objectInfo 0 x y 148 (pm I L r) = _
      unfold f_L_objectInfo
      rw [xc_ex hX]
      have hle : pz_of (pa_isO A x) y 7 = 0 ∨ pz_of (pa_isO A x) y 7 = 1 ∨ pz_of (pa_isO A x) y 7 = 2 := by
        unfold pz_of
        split
        · split <;> simp
        · simp
      rcases hle with h | h | h
      · exact absurd h e0
      · rw [h]; rfl
      · rw [h]; rfl
    · intro J K r' hJ
      show f_X9_objectInfo 130 x y (pm J K r') = _
      rw [hR J K r' hJ]
      unfold f_X9_objectInfo_b28
      simp only [plit, pO_130, pbs, r9_rf (show pz_of (pa_isO A x) y 7 ≤ 100 from Nat.le_trans (pz_of_le _ _ _) (by decide)), bIn]
      rw [if_neg (by simp [e0])]
set_option maxRecDepth 8192 in
theorem ok_dominator (x : Int32) (hC : cS I L r A n H t T P k B) (hA : aS A n H t T P k B) (hB : B + 1000 < 2 ^ 29) : opK (fun σ => f_L_dominator 0 x 148 σ) (fun σ => f_X9_dominator 130 x σ) Int32.toInt64 I L r A n H t T P k B := by
  have w := hA.2.1
  refine opK_obj (fX := fun σ => f_X8_dominator 0 x σ) (pa_isO A x) (mI (px_im A x.toNatClampNeg)) (fun r5 => (hb_getR r5 0 8 1).bind fun r6 => (hb_getR r5 r6 0 5).bind fun r7 => (hb_iald r5 r7 x).bind fun r8 => some (.inr r8, r5)) (fun _ => rfl) ?_ ?_ ?_ ?_ hC hA hB
  · show f_X8_dominator 0 x (pm I L r) = _
    unfold f_X8_dominator
    simp only [pR_0_0, pbs, pO_h hp_1, x4_hasObject hp_1 hC.1 w]
  · intro e J K X R
    obtain ⟨o, ho, ha, hx⟩ := pa_isO_ex e
    subst hx
    refine ⟨J, K, ?_, fun _ _ => ⟨rfl, rfl⟩⟩
    simp only [pR_0_1, pbs, pR_12_5, pA_23 ho, (X.2.2.2.2 o ho).2.1, nI_clamp (show o < 2 ^ 31 from by omega)]
    rfl
  · intro e J K r' hJ
    unfold f_X9_dominator
    simp only [plit, pO_130, pbs, r9_isObject hJ.1 w, e, r9_need, r9_rf (show (if false = true then 0 else 1) ≤ 100 from by decide), bIn]
    rfl
  · intro e J K r' hJ
    obtain ⟨o, ho, ha, hx⟩ := pa_isO_ex e
    subst hx
    obtain ⟨K1, g1, g2, g3, g4⟩ := r9_laysRet (L := K) (r := r') (mS_1 hJ) w
    refine ⟨_, K1, ?_, up2_eq, mK_rf (x := nI 0), fun a ha => ⟨up2_a (by omega), g3 a (by omega) (by omega)⟩⟩
    unfold f_X9_dominator
    simp only [plit, pO_130, pbs, r9_isObject hJ.1 w, e, r9_need, if_true, r9_rf (show 0 ≤ 100 from by decide), bIn, ne_eq, not_true, decide_false, g1, r9_immediate g2 w ho, nI_clamp (show o < 2 ^ 31 from by omega)]
set_option maxRecDepth 8192 in
theorem ok_depth (x : Int32) (hC : cS I L r A n H t T P k B) (hA : aS A n H t T P k B) (hB : B + 1000 < 2 ^ 29) : opK (fun σ => f_L_depth 0 x 148 σ) (fun σ => f_X9_depth 130 x σ) Int32.toInt64 I L r A n H t T P k B := by
  have w := hA.2.1
  refine opK_obj (fX := fun σ => f_X8_depth 0 x σ) (pa_isO A x) (mI (fb_ct (pd_D A x.toNatClampNeg) 40)) (fun r5 => (hb_getR r5 0 8 1).bind fun r6 => (hb_getR r5 r6 0 4).bind fun r7 => (hb_lald r5 r7 x).bind fun r8 => (f_J13_bitCount_95d88 r8 r5).bind fun r9 => some (.inr (r9.1 - (1 : Int32)), r9.2)) (fun _ => rfl) ?_ ?_ ?_ ?_ hC hA hB
  · show f_X8_depth 0 x (pm I L r) = _
    unfold f_X8_depth
    simp only [pR_0_0, pbs, pO_h hp_1, x4_hasObject hp_1 hC.1 w]
  · intro e J K X R
    obtain ⟨o, ho, ha, hx⟩ := pa_isO_ex e
    subst hx
    refine ⟨J, K, ?_, fun _ _ => ⟨rfl, rfl⟩⟩
    simp only [pR_0_1, pbs, pR_12_4, pA_22 ho, (X.2.2.2.2 o ho).1, pc_bitCount, plit, mI_def, nI_clamp (show o < 2 ^ 31 from by omega)]
  · intro e J K r' hJ
    unfold f_X9_depth
    simp only [plit, pO_130, pbs, r9_isObject hJ.1 w, e, r9_need, r9_rf (show (if false = true then 0 else 1) ≤ 100 from by decide), bIn]
    rfl
  · intro e J K r' hJ
    obtain ⟨o, ho, ha, hx⟩ := pa_isO_ex e
    subst hx
    obtain ⟨K1, g1, g2, g3, g4⟩ := r9_laysRet (L := K) (r := r') (mS_1 hJ) w
    refine ⟨_, K1, ?_, up2_eq, mK_rf (x := nI 0), fun a ha => ⟨up2_a (by omega), g3 a (by omega) (by omega)⟩⟩
    unfold f_X9_depth
    simp only [plit, pO_130, pbs, r9_isObject hJ.1 w, e, r9_need, if_true, r9_rf (show 0 ≤ 100 from by decide), bIn, ne_eq, not_true, decide_false, g1, r9_isReached g2 ho, r9_depthOf g2 ho, nI_clamp (show o < 2 ^ 31 from by omega)]
    cases er : px_R A o
    · have hz : fb_ct (pd_D A o) 40 = 0 := fb_ct_zero.mpr (fun q _ => by
        cases e2 : pd_D A o q
        · rfl
        · have := pd_R e2
          unfold px_R at er
          rw [er] at this
          cases this)
      rw [hz, mI_0]
      rfl
    · rfl
set_option maxRecDepth 8192 in
theorem ok_retainedSize (x : Int32) (hC : cS I L r A n H t T P k B) (hA : aS A n H t T P k B) (hB : B + 1000 < 2 ^ 29) : opK (fun σ => f_L_retainedSize 0 x 148 σ) (fun σ => f_X9_retainedSize 130 x σ) Int32.toInt64 I L r A n H t T P k B := by
  have w := hA.2.1
  refine opK_obj (fX := fun σ => f_X8_retainedSize 0 x σ) (pa_isO A x) (nI (pd_rt A x.toNatClampNeg)) (fun r5 => (hb_getR r5 0 8 1).bind fun r6 => (hb_getR r5 r6 0 6).bind fun r7 => (hb_iald r5 r7 x).bind fun r8 => some (.inr r8, r5)) (fun _ => rfl) ?_ ?_ ?_ ?_ hC hA hB
  · show f_X8_retainedSize 0 x (pm I L r) = _
    unfold f_X8_retainedSize
    simp only [pR_0_0, pbs, pO_h hp_1, x4_hasObject hp_1 hC.1 w]
  · intro e J K X R
    obtain ⟨o, ho, ha, hx⟩ := pa_isO_ex e
    subst hx
    refine ⟨J, K, ?_, fun _ _ => ⟨rfl, rfl⟩⟩
    simp only [pR_0_1, pbs, pR_12_6, pA_24 ho, (X.2.2.2.2 o ho).2.2.1, nI_clamp (show o < 2 ^ 31 from by omega)]
  · intro e J K r' hJ
    unfold f_X9_retainedSize
    simp only [plit, pO_130, pbs, r9_isObject hJ.1 w, e, r9_need, r9_rf (show (if false = true then 0 else 1) ≤ 100 from by decide), bIn]
    rfl
  · intro e J K r' hJ
    obtain ⟨o, ho, ha, hx⟩ := pa_isO_ex e
    subst hx
    obtain ⟨K1, g1, g2, g3, g4⟩ := r9_laysRet (L := K) (r := r') (mS_1 hJ) w
    refine ⟨_, K1, ?_, up2_eq, mK_rf (x := nI 0), fun a ha => ⟨up2_a (by omega), g3 a (by omega) (by omega)⟩⟩
    unfold f_X9_retainedSize
    simp only [plit, pO_130, pbs, r9_isObject hJ.1 w, e, r9_need, if_true, r9_rf (show 0 ≤ 100 from by decide), bIn, ne_eq, not_true, decide_false, g1, r9_retBy (mS_1 hJ) w g2 ho, nI_clamp (show o < 2 ^ 31 from by omega)]
set_option maxRecDepth 8192 in
theorem px_pl (X : px_an I L A) : L = pl_D L 22 (pd_D A) := by
  funext b j
  unfold pl_D
  by_cases e : b = 22 ∧ j < 40
  · rw [if_pos e, e.1, (X.2.2.2.2 j e.2).1]
  · rw [if_neg e]
set_option maxRecDepth 8192 in
theorem x0_domBy (X : px_an I L A) {o : Nat} (ho : o < 40) : f_X0_dominatedBy 12 (nI o) (pm I L r) = some (hb_mk (fun x => pd_D A x o), pm I L r) := by
  have h := x0_dominatedBy (I := I) (L := L) (r := r) (D := pd_D A) ho
  rw [← px_pl X] at h
  exact h
set_option maxRecDepth 8192 in
theorem ok_retainedObjects (x : Int32) (hC : cS I L r A n H t T P k B) (hA : aS A n H t T P k B) (hB : B + 1000 < 2 ^ 29) : opK (fun σ => f_L_retainedObjects 0 x 148 σ) (fun σ => f_X9_retainedObjects 130 x σ) Int32.toInt64 I L r A n H t T P k B := by
  have w := hA.2.1
  refine opK_obj (fX := fun σ => f_X8_retainedObjects 0 x σ) (pa_isO A x) (nI (fb_ct (fun q => pd_D A q x.toNatClampNeg) 40)) (fun r5 => (hb_getR r5 0 8 1).bind fun r6 => (hb_on r5 r6 0 (f_X0_dominatedBy r6 x r5)).bind fun r7 => (f_J13_bitCount_95d88 r7.1 r7.2).bind fun r8 => some (.inr r8.1, r8.2)) (fun _ => rfl) ?_ ?_ ?_ ?_ hC hA hB
  · show f_X8_retainedObjects 0 x (pm I L r) = _
    unfold f_X8_retainedObjects
    simp only [pR_0_0, pbs, pO_h hp_1, x4_hasObject hp_1 hC.1 w]
  · intro e J K X R
    obtain ⟨o, ho, ha, hx⟩ := pa_isO_ex e
    subst hx
    refine ⟨J, K, ?_, fun _ _ => ⟨rfl, rfl⟩⟩
    simp only [pR_0_1, pbs, pO_12, x0_domBy X ho, pc_bitCount, nI_clamp (show o < 2 ^ 31 from by omega)]
  · intro e J K r' hJ
    unfold f_X9_retainedObjects
    simp only [plit, pO_130, pbs, r9_isObject hJ.1 w, e, r9_need, r9_rf (show (if false = true then 0 else 1) ≤ 100 from by decide), bIn]
    rfl
  · intro e J K r' hJ
    obtain ⟨o, ho, ha, hx⟩ := pa_isO_ex e
    subst hx
    obtain ⟨K1, g1, g2, g3, g4⟩ := r9_laysRet (L := K) (r := r') (mS_1 hJ) w
    refine ⟨_, K1, ?_, up2_eq, mK_rf (x := nI 0), fun a ha => ⟨up2_a (by omega), g3 a (by omega) (by omega)⟩⟩
    unfold f_X9_retainedObjects
    simp only [plit, pO_130, pbs, r9_isObject hJ.1 w, e, r9_need, if_true, r9_rf (show 0 ≤ 100 from by decide), bIn, ne_eq, not_true, decide_false, g1, pR_130_12, pA_138 ho, g2.2 o ho, r9_bits, nI_clamp (show o < 2 ^ 31 from by omega)]
set_option maxRecDepth 8192 in
theorem ok_component (x : Int32) (hC : cS I L r A n H t T P k B) (hA : aS A n H t T P k B) (hB : B + 1000 < 2 ^ 29) : opK (fun σ => f_L_component 0 x 148 σ) (fun σ => f_X9_component 130 x σ) Int32.toInt64 I L r A n H t T P k B := by
  have w := hA.2.1
  refine opK_obj (fX := fun σ => f_X8_component 0 x σ) (pa_isO A x) (mI (ld_c (ld_n A 40) x.toNatClampNeg)) (fun r5 => (hb_getR r5 0 8 1).bind fun r6 => (hb_getR r5 r6 0 10).bind fun r7 => (hb_iald r5 r7 x).bind fun r8 => some (.inr r8, r5)) (fun _ => rfl) ?_ ?_ ?_ ?_ hC hA hB
  · show f_X8_component 0 x (pm I L r) = _
    unfold f_X8_component
    simp only [pR_0_0, pbs, pO_h hp_1, x4_hasObject hp_1 hC.1 w]
  · intro e J K X R
    obtain ⟨o, ho, ha, hx⟩ := pa_isO_ex e
    subst hx
    refine ⟨J, K, ?_, fun _ _ => ⟨rfl, rfl⟩⟩
    simp only [pR_0_1, pbs, pR_12_10, pA_28 ho, (X.2.2.2.2 o ho).2.2.2.2.2.2, nI_clamp (show o < 2 ^ 31 from by omega)]
  · intro e J K r' hJ
    unfold f_X9_component
    simp only [plit, pO_130, pbs, r9_isObject hJ.1 w, e, r9_need, r9_rf (show (if false = true then 0 else 1) ≤ 100 from by decide), bIn]
    rfl
  · intro e J K r' hJ
    obtain ⟨o, ho, ha, hx⟩ := pa_isO_ex e
    subst hx
    obtain ⟨K1, g1, g2, g3⟩ := r9_leads (L := K) (r := r') (mS_1 hJ) w
    obtain ⟨q, q1, q2, q3, q4⟩ := ld_c_low ha
    refine ⟨_, K1, ?_, up2_eq, mK_rf (x := nI 0), fun a ha => ⟨up2_a (by omega), g3 a (by omega)⟩⟩
    unfold f_X9_component
    simp only [plit, pO_130, pbs, r9_isObject hJ.1 w, e, r9_need, if_true, r9_rf (show 0 ≤ 100 from by decide), bIn, ne_eq, not_true, decide_false, g1, r9_compOf g2 ho, r9_first (p := fun b => ld_n A 40 o b && ld_n A 40 b o) (show q < 40 from by omega) q3 q4, nI_clamp (show o < 2 ^ 31 from by omega), q1, mI_s]
set_option maxRecDepth 8192 in
theorem ok_componentSize (x : Int32) (hC : cS I L r A n H t T P k B) (hA : aS A n H t T P k B) (hB : B + 1000 < 2 ^ 29) : opK (fun σ => f_L_componentSize 0 x 148 σ) (fun σ => f_X9_componentSize 130 x σ) Int32.toInt64 I L r A n H t T P k B := by
  have w := hA.2.1
  refine opK_obj (fX := fun σ => f_X8_componentSize 0 x σ) (pa_isO A x) (nI (fb_ct (fun b => ld_n A 40 x.toNatClampNeg b && ld_n A 40 b x.toNatClampNeg) 40)) (fun r5 => (hb_getR r5 0 8 1).bind fun r6 => (hb_on r5 r6 0 (f_X0_sizeOfComponent r6 x r5)).bind fun r7 => some (.inr r7.1, r7.2)) (fun _ => rfl) ?_ ?_ ?_ ?_ hC hA hB
  · show f_X8_componentSize 0 x (pm I L r) = _
    unfold f_X8_componentSize
    simp only [pR_0_0, pbs, pO_h hp_1, x4_hasObject hp_1 hC.1 w]
  · intro e J K X R
    obtain ⟨o, ho, ha, hx⟩ := pa_isO_ex e
    subst hx
    refine ⟨J, K, ?_, fun _ _ => ⟨rfl, rfl⟩⟩
    simp only [pR_0_1, pbs, pO_12, x0_compSize X ho, nI_clamp (show o < 2 ^ 31 from by omega), ld_size w ho ha]
  · intro e J K r' hJ
    unfold f_X9_componentSize
    simp only [plit, pO_130, pbs, r9_isObject hJ.1 w, e, r9_need, r9_rf (show (if false = true then 0 else 1) ≤ 100 from by decide), bIn]
    rfl
  · intro e J K r' hJ
    obtain ⟨o, ho, ha, hx⟩ := pa_isO_ex e
    subst hx
    obtain ⟨K1, g1, g2, g3⟩ := r9_leads (L := K) (r := r') (mS_1 hJ) w
    refine ⟨_, K1, ?_, up2_eq, mK_rf (x := nI 0), fun a ha => ⟨up2_a (by omega), g3 a (by omega)⟩⟩
    unfold f_X9_componentSize
    simp only [plit, pO_130, pbs, r9_isObject hJ.1 w, e, r9_need, if_true, r9_rf (show 0 ≤ 100 from by decide), bIn, ne_eq, not_true, decide_false, g1, r9_compOf g2 ho, r9_bits, nI_clamp (show o < 2 ^ 31 from by omega)]
set_option maxRecDepth 8192 in
theorem r9_lost (hN : pr_row (I 131) A) (w : pa_wf A) (W u : Nat → Bool) (q : Nat → Nat → Bool) : (f_X9_sizes 130 (hb_mk (fun j => px_R A j && !pg_b A W q u j)) (pm I L r)) = some (lN (px_ls A W q u), pm I L r) := by
  rw [r9_sizes hN w (fun j => px_R A j && !pg_b A W q u j) (fun o _ h => by
    simp only [Bool.and_eq_true] at h
    exact (pg_b_al w h.1).2)]
  rfl
set_option maxRecDepth 8192 in
theorem ok_freedByUnrooting (x : Int32) (hC : cS I L r A n H t T P k B) (hA : aS A n H t T P k B) (hB : B + 1000 < 2 ^ 29) : opK (fun σ => f_L_freedByUnrooting 0 x 148 σ) (fun σ => f_X9_freedByUnrooting 130 x σ) Int32.toInt64 I L r A n H t T P k B := by
  have w := hA.2.1
  refine opK_obj (fX := fun σ => f_X8_freedByUnrooting 0 x σ) (pa_isO A x) (nI (px_ls A pg_0 pg_00 (pq1 x))) (fun r5 => (hb_getR r5 0 8 1).bind fun r6 => (hb_on r5 r6 0 (f_X0_lostWithoutRoot r6 x r5)).bind fun r7 => some (.inr r7.1, r7.2)) (fun _ => rfl) ?_ ?_ ?_ ?_ hC hA hB
  · show f_X8_freedByUnrooting 0 x (pm I L r) = _
    unfold f_X8_freedByUnrooting
    simp only [pR_0_0, pbs, pO_h hp_1, x4_hasObject hp_1 hC.1 w]
  · intro e J K X R
    obtain ⟨J2, K2, f1, f2⟩ := x0_lostRoot (r := r) R w X x
    refine ⟨J2, K2, ?_, f2⟩
    simp only [pR_0_1, pbs, pO_12, f1]
  · intro e J K r' hJ
    unfold f_X9_freedByUnrooting
    simp only [plit, pO_130, pbs, r9_isObject hJ.1 w, e, r9_need, r9_rf (show (if false = true then 0 else 1) ≤ 100 from by decide), bIn]
    rfl
  · intro e J K r' hJ
    have hN := mS_1 hJ
    have hre := r9_reached (L := K) (r := r') hN w pg_0 (-nI 1) (-nI 1) x
    rw [show pg_b A pg_0 (pq2 (-nI 1) (-nI 1)) (pq1 x) = pg_b A pg_0 pg_00 (pq1 x) from by funext o; unfold pg_b; rw [pg_E_none2], show hb_mk pg_0 = 0 from pb_0] at hre
    refine ⟨_, K, ?_, up2_eq, mK_rf (x := nI 0), mO_rf⟩
    unfold f_X9_freedByUnrooting
    simp only [plit, pO_130, pbs, r9_isObject hJ.1 w, e, r9_need, if_true, r9_rf (show 0 ≤ 100 from by decide), bIn, ne_eq, not_true, decide_false, r9_all hN w, hre, pb_anot, r9_lost hN w, lN_i]
set_option maxRecDepth 8192 in
theorem ok_freedByClearing (x y : Int32) (hC : cS I L r A n H t T P k B) (hA : aS A n H t T P k B) (hB : B + 1000 < 2 ^ 29) : opK (fun σ => f_L_freedByClearing 0 x y 148 σ) (fun σ => f_X9_freedByClearing 130 x y σ) Int32.toInt64 I L r A n H t T P k B := by
  have w := hA.2.1
  refine opK_obj (fX := fun σ => f_X8_freedByClearing 0 x y σ) (pa_isS A x y) (nI (px_ls A pg_0 (pq2 x y) pg_0)) (fun r5 => (hb_getR r5 0 8 1).bind fun r6 => (hb_on r5 r6 0 (f_X0_lostWithoutSlot r6 x y r5)).bind fun r7 => some (.inr r7.1, r7.2)) (fun _ => rfl) ?_ ?_ ?_ ?_ hC hA hB
  · show f_X8_freedByClearing 0 x y (pm I L r) = _
    unfold f_X8_freedByClearing
    simp only [pR_0_0, pbs, pO_h hp_1, x4_hasSlot hp_1 hC.1 w]
  · intro e J K X R
    obtain ⟨o, s, ho, ha, hs, hx, hy⟩ := pa_isS_ex e w
    subst hx
    subst hy
    have h8 := pa_sl8 w ho ha
    obtain ⟨J2, K2, f1, f2⟩ := x0_lostSlot (r := r) R w X ho (show s < 8 from by omega)
    refine ⟨J2, K2, ?_, f2⟩
    simp only [pR_0_1, pbs, pO_12, f1]
  · intro e J K r' hJ
    unfold f_X9_freedByClearing
    simp only [plit, pO_130, pbs, r9_isSlot hJ.1 w, e, r9_need, r9_rf (show (if false = true then 0 else 1) ≤ 100 from by decide), bIn]
    rfl
  · intro e J K r' hJ
    have hN := mS_1 hJ
    have hre := r9_reached (L := K) (r := r') hN w pg_0 x y (-nI 1)
    rw [show pg_b A pg_0 (pq2 x y) (pq1 (-nI 1)) = pg_b A pg_0 (pq2 x y) pg_0 from by funext o; unfold pg_b; rw [pg_S_none], show hb_mk pg_0 = 0 from pb_0] at hre
    refine ⟨_, K, ?_, up2_eq, mK_rf (x := nI 0), mO_rf⟩
    unfold f_X9_freedByClearing
    simp only [plit, pO_130, pbs, r9_isSlot hJ.1 w, e, r9_need, if_true, r9_rf (show 0 ≤ 100 from by decide), bIn, ne_eq, not_true, decide_false, r9_all hN w, hre, pb_anot, r9_lost hN w, lN_i]
set_option maxRecDepth 8192 in
theorem ok_dominatedAt (x y : Int32) (hC : cS I L r A n H t T P k B) (hA : aS A n H t T P k B) (hB : B + 1000 < 2 ^ 29) : opK (fun σ => f_L_dominatedAt 0 x y 148 σ) (fun σ => f_X9_dominatedAt 130 x y σ) Int32.toInt64 I L r A n H t T P k B := by
  have w := hA.2.1
  refine opK_obj (fX := fun σ => f_X8_dominatedAt 0 x y σ) (decide (x = -nI 1) || pa_isO A x) (mI (pb_nth (px_ch A x) y)) (fun r3 => (hb_getR r3 0 8 1).bind fun r4 => (hb_on r3 r4 0 (f_X0_children r4 x r3)).bind fun r5 => (f_X8_memberAt r5.1 y r5.2).bind fun r6 => some (.inr r6.1, r6.2)) (fun _ => rfl) ?_ ?_ ?_ ?_ hC hA hB
  · show f_X8_dominatedAt 0 x y (pm I L r) = _
    unfold f_X8_dominatedAt f_X8_dominatedAt_b16 f_X8_dominatedAt_b21
    simp only [pR_0_0, pbs, pO_h hp_1, x4_hasObject hp_1 hC.1 w, plit, bIn]
    by_cases e : x = -nI 1
    · have h1 : (decide (x = -nI 1) || pa_isO A x) = true := by simp [e]
      rw [if_pos e, h1, bI_t]
    · have h1 : (decide (x = -nI 1) || pa_isO A x) = pa_isO A x := by simp [e]
      rw [if_neg e, h1]
      cases pa_isO A x
      · rw [if_pos rfl, bI_f]
      · rw [if_neg (by decide), bI_t]
  · intro e J K X R
    refine ⟨J, K, ?_, fun _ _ => ⟨rfl, rfl⟩⟩
    simp only [pR_0_1, pbs, pO_12, x0_children X, x8_memberAt]
  · intro e J K r' hJ
    simp only [Bool.or_eq_false_iff, decide_eq_false_iff_not] at e
    unfold f_X9_dominatedAt f_X9_dominatedAt_b15 f_X9_dominatedAt_b20
    have hn := r9_need (b := false) (σ := pm J K r')
    rw [bI_f] at hn
    simp only [plit, e.1, if_false, pO_130, pbs, r9_isObject hJ.1 w, e.2, bIn, if_true, hn, r9_rf (show (if false = true then 0 else 1) ≤ 100 from by decide)]
    rfl
  · intro e J K r' hJ
    obtain ⟨K1, g1, g2, g3, g4⟩ := r9_laysRet (L := K) (r := r') (mS_1 hJ) w
    refine ⟨_, K1, ?_, up2_eq, mK_rf (x := nI 0), fun a ha => ⟨up2_a (by omega), g3 a (by omega) (by omega)⟩⟩
    have hn := r9_need (b := true) (σ := pm J K r')
    rw [bI_t] at hn
    have hloop : f_X9_dominatedAt_b40 hb_FU 130 x y (nI 0) (nI 0) (pm (up2 J 130 4 (nI 0)) K1 r') = some (mI (pb_nth (px_ch A x) y), pm (up2 J 130 4 (nI 0)) K1 r') := by
      unfold pb_nth
      refine pm_find (fun n i => f_X9_dominatedAt_b40 n 130 x y (nI (fb_ct (px_ch A x) i)) (nI i) (pm (up2 J 130 4 (nI 0)) K1 r')) (fun i => px_ch A x i && decide (nI (fb_ct (px_ch A x) i) = y)) 40 (out := fun q => some (mI q, pm (up2 J 130 4 (nI 0)) K1 r')) ?_ ?_ ?_ hb_FU (by decide)
      · intro n i hi hp
        have hs : fb_ct (px_ch A x) (i + 1) = fb_ct (px_ch A x) i + (if px_ch A x i then 1 else 0) := fb_ct_succ _ i
        simp (disch := omega) only [f_X9_dominatedAt_b40, f_X9_dominatedAt_b77, plit, pn_le, pO_130, r9_isReached g2 hi, pbs, bIn, r9_immediate g2 w hi, nI_add]
        rw [if_neg (show ¬ 40 ≤ i from by omega), hs]
        unfold px_ch at hp ⊢
        cases e1 : px_R A i
        · simp
        · rw [e1] at hp
          by_cases e2 : mI (px_im A i) = x
          · simp only [e2, decide_true, Bool.true_and, decide_eq_false_iff_not, Bool.and_self] at hp
            simp only [e2, decide_true, Bool.and_self, if_true, Bool.true_eq_false, if_false, hp]
          · simp [e2]
      · intro n i hi hp _
        simp only [Bool.and_eq_true, decide_eq_true_eq] at hp
        obtain ⟨hp1, hp2⟩ := hp
        have hp3 := hp1
        unfold px_ch at hp3
        simp only [Bool.and_eq_true, decide_eq_true_eq] at hp3
        simp (disch := omega) only [f_X9_dominatedAt_b40, f_X9_dominatedAt_b77, plit, pn_le, pO_130, r9_isReached g2 hi, hp3.1, pbs, bIn, Bool.true_eq_false, if_false, r9_immediate g2 w hi, hp3.2, if_true, hp2, mI_s]
        rw [if_neg (show ¬ 40 ≤ i from by omega)]
      · intro n _
        rw [f_X9_dominatedAt_b40, if_pos (by decide)]
        rfl
    unfold f_X9_dominatedAt f_X9_dominatedAt_b15 f_X9_dominatedAt_b20
    simp only [plit, pO_130, pbs, r9_isObject hJ.1 w, bIn, hn, if_true, r9_rf (show 0 ≤ 100 from by decide), ne_eq, not_true, decide_false, g1, hloop]
    by_cases e1 : x = -nI 1
    · rw [if_pos e1]
    · rw [if_neg e1]
      simp only [e1, decide_false, Bool.false_or] at e
      rw [if_neg (by simp [e])]
set_option maxRecDepth 8192 in
theorem ok_dominates (x y : Int32) (hC : cS I L r A n H t T P k B) (hA : aS A n H t T P k B) (hB : B + 1000 < 2 ^ 29) : opK (fun σ => f_L_dominates 0 x y 148 σ) (fun σ => f_X9_dominates 130 x y σ) pw_b I L r A n H t T P k B := by
  have w := hA.2.1
  have hX : f_X8_dominates 0 x y (pm I L r) = if (pa_isO A x && pa_isO A y) = true then ((f_X0_refresh 12 (pm I L r)).bind fun r3 => (hb_lald r3 22 y).bind fun r6 => (f_X8_contains r6 x r3).bind fun r7 => if r7.1 = 0 ∨ r7.1 = 1 then some (.inr r7.1, r7.2) else none) else some (.inl hb_e1, pm I L r) := by
    unfold f_X8_dominates f_X8_dominates_b26 f_X8_dominates_b27
    simp only [pR_0_0, pbs, pO_h hp_1, x4_hasObject hp_1 hC.1 w, plit, bIn]
    rw [← bI_f, ← bI_t, pz_xu, pz_xu]
    obtain ⟨J, K, e1, e2, e3, e4⟩ := cS_refresh hC hA
    cases pa_isO A x <;> cases pa_isO A y <;> simp [pR_0_1, pbs, pO_12, e1, pR_12_4]
  cases e : pa_isO A x && pa_isO A y
  · rw [e] at hX
    refine opK_rf (nI 0) (c := 1) (by decide) (by decide) ?_ ?_ hC hA hB
    · show f_L_dominates 0 x y 148 (pm I L r) = _
      unfold f_L_dominates
      rw [xc_ex hX]
      exact if_pos rfl
    · intro J K r' hJ
      show f_X9_dominates 130 x y (pm J K r') = _
      have hn := r9_need (b := false) (σ := pm J K r')
      rw [bI_f] at hn
      unfold f_X9_dominates f_X9_dominates_b22 f_X9_dominates_b23
      have hcond : pa_isO A x = false ∨ (pa_isO A x = true ∧ pa_isO A y = false) := by
        cases h1 : pa_isO A x
        · exact Or.inl rfl
        · rw [h1] at e
          exact Or.inr ⟨rfl, by simpa using e⟩
      rcases hcond with h1 | ⟨h1, h2⟩
      · simp only [plit, pO_130, pbs, r9_isObject hJ.1 w, h1, bIn, if_true, hn, r9_rf (show (if false = true then 0 else 1) ≤ 100 from by decide)]
        rfl
      · simp only [plit, pO_130, pbs, r9_isObject hJ.1 w, h1, h2, bIn, Bool.true_eq_false, if_false, if_true, hn, r9_rf (show (if false = true then 0 else 1) ≤ 100 from by decide)]
        rfl
  · rw [e, if_pos rfl] at hX
    simp only [Bool.and_eq_true] at e
    obtain ⟨o, ho, ha, hx⟩ := pa_isO_ex e.1
    obtain ⟨q, hq, hqa, hy⟩ := pa_isO_ex e.2
    subst hx
    subst hy
    obtain ⟨J, K, g1, g2, g3, g4⟩ := cS_refresh hC hA
    refine opK_ask (bI (pd_D A q o)) ⟨J, K, ?_, g2, fun a a1 a2 => g4 a (by omega)⟩ ?_ hA hB
    · show f_L_dominates 0 (nI o) (nI q) 148 (pm I L r) = _
      unfold f_L_dominates f_L_dominates_b16
      refine xc_inb ?_
      rw [hX]
      simp only [g1, pbs, pA_22 hq, (g3.2.2.2.2 q hq).1, x8_containsN ho]
      exact if_pos (bI01 _)
    · intro J K r' hJ
      obtain ⟨K1, g1, g2, g3, g4⟩ := r9_laysRet (L := K) (r := r') (mS_1 hJ) w
      have hn := r9_need (b := true) (σ := pm J K r')
      rw [bI_t] at hn
      refine ⟨_, K1, ?_, up2_eq, mK_rf (x := nI 0), fun a ha => ⟨up2_a (by omega), g3 a (by omega) (by omega)⟩⟩
      unfold f_X9_dominates f_X9_dominates_b22 f_X9_dominates_b23
      simp only [plit, pO_130, pbs, r9_isObject hJ.1 w, e.1, e.2, bIn, Bool.true_eq_false, if_false, if_true, hn, r9_rf (show 0 ≤ 100 from by decide), ne_eq, not_true, decide_false, g1, pR_130_12, pA_138 ho, g2.2 o ho, pb_cS hq, pb_cmpE, pb_l1']
      cases pd_D A q o <;> rfl
end OP5
