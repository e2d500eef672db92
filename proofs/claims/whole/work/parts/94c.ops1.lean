/-! how the two sides of a call are joined; calls that only ask -/
set_option maxRecDepth 8192 in
theorem xc_l {α β : Type} {E : String} {σ : hb_M} {kE : String → hb_M → Option β} {q : α → hb_M → Option β} : hb_xc (some (.inl E, σ)) kE q = kE E σ := rfl
set_option maxRecDepth 8192 in
theorem xc_r {α β : Type} {v : α} {σ : hb_M} {kE : String → hb_M → Option β} {q : α → hb_M → Option β} : hb_xc (some (.inr v, σ)) kE q = q v σ := rfl
set_option maxRecDepth 8192 in
theorem pe_12 : ¬ hb_e1 = hb_e2 := by decide
set_option maxRecDepth 8192 in
theorem pe_13 : ¬ hb_e1 = hb_e3 := by decide
set_option maxRecDepth 8192 in
theorem pe_21 : ¬ hb_e2 = hb_e1 := by decide
set_option maxRecDepth 8192 in
theorem pe_23 : ¬ hb_e2 = hb_e3 := by decide
set_option maxRecDepth 8192 in
theorem pe_31 : ¬ hb_e3 = hb_e1 := by decide
set_option maxRecDepth 8192 in
theorem pe_32 : ¬ hb_e3 = hb_e2 := by decide
/-- a call that cannot throw -/
def opD {β : Type} (fX fM : hb_M → Option (β × hb_M)) (I : Nat → Nat → Int32) (L : Nat → Nat → Int64) (r : Nat → Option Nat) (A : Nat → Nat → Nat) (n : Nat) (H : Nat → Nat → Nat → Nat) (t : Nat) (T : Nat → Nat) (P : Nat → Nat → Nat → Nat) (k : Nat → Bool) (B : Nat) : Prop := ∃ v A' n' H' t' T' P' k', (∃ J K r', fX (pm I L r) = some (v, pm J K r') ∧ cS J K r' A' n' H' t' T' P' k' (B + 1000) ∧ ∀ a, 130 ≤ a → a < 148 → J a = I a ∧ K a = L a) ∧ (∀ J K r', mS J A n H t T P k → ∃ J' K', fM (pm J K r') = some (v, pm J' K' r') ∧ mS J' A' n' H' t' T' P' k' ∧ mO J J' K K') ∧ aS A' n' H' t' T' P' k' (B + 1000)
section OP1
variable {I J : Nat → Nat → Int32} {L K : Nat → Nat → Int64} {r : Nat → Option Nat} {A : Nat → Nat → Nat} {n : Nat} {H : Nat → Nat → Nat → Nat} {t : Nat} {T : Nat → Nat} {P : Nat → Nat → Nat → Nat} {k : Nat → Bool} {B : Nat}
set_option maxRecDepth 8192 in
theorem cS_refresh (hC : cS I L r A n H t T P k B) (hA : aS A n H t T P k B) : ∃ J K, f_X0_refresh 12 (pm I L r) = some (pm J K r) ∧ cS J K r A n H t T P k B ∧ px_an J K A ∧ ∀ a, (a < 12 ∨ 28 < a) → J a = I a ∧ K a = L a := by
  obtain ⟨h1, h2, ⟨π, h3⟩, h4, h5⟩ := hC
  have hB := hA.1
  obtain ⟨J, K, e1, e2, e3, e4⟩ := x0_refresh (r := r) hp_1 rfl h1 hA.2.1 (cV_fresh h2 (by omega))
  refine ⟨J, K, e1, ⟨ph_fr h1 (fun a _ _ => (e4 a (by omega)).1), ?_, ⟨π, cH_fr h3 (fun _ _ => rfl) (fun a _ _ => (e4 a (by omega)).1)⟩, cT_fr h4 (fun a _ => (e4 a (by omega)).1), cP_fr h5 (fun a _ _ => (e4 a (by omega)).1)⟩, e2, e4⟩
  obtain ⟨v, c, v1, v2, v3, v4, v5⟩ := h2
  refine ⟨v, v + 1, by rw [(e4 1 (by omega)).1]; exact v1, v2, ?_, Nat.le_refl _, fun _ => e2⟩
  rw [e3, (e4 1 (by omega)).1, v1, mI_s]
set_option maxRecDepth 8192 in
theorem opK_no {β : Type} {fL : hb_M → Option (Int32 × hb_M)} {fM : hb_M → Option (β × hb_M)} {wd : β → Int64} (v : β) {c : Nat} (hc : c ≤ 3) (h0 : c ≠ 0) (hL : fL (pm I L r) = some (nI c, pm I L r)) (hM : ∀ J K r', mS J A n H t T P k → ∃ v' J' K', fM (pm J K r') = some (v', pm J' K' r') ∧ J' 130 4 = nI c ∧ mK J J' ∧ mO J J' K K') (hC : cS I L r A n H t T P k B) (hA : aS A n H t T P k B) (hB : B + 1000 < 2 ^ 29) : opK fL fM wd I L r A n H t T P k B := by
  refine ⟨c, v, A, n, H, t, T, P, k, hc, ⟨I, L, r, hL, fun h => absurd h h0, cS_le hC (by omega), fun _ _ _ => ⟨rfl, rfl⟩⟩, ?_, aS_le hA (by omega) hB⟩
  intro J K r' hJ
  obtain ⟨v', J', K', e1, e2, e3, e4⟩ := hM J K r' hJ
  exact ⟨v', J', K', e1, fun h => absurd h h0, e2, mS_fr hJ e3, e4⟩
set_option maxRecDepth 8192 in
theorem opK_yes {β : Type} {fL : hb_M → Option (Int32 × hb_M)} {fM : hb_M → Option (β × hb_M)} {wd : β → Int64} (v : β) {A' : Nat → Nat → Nat} {n' : Nat} {H' : Nat → Nat → Nat → Nat} {t' : Nat} {T' : Nat → Nat} {P' : Nat → Nat → Nat → Nat} {k' : Nat → Bool} (hL : ∃ J K r', fL (pm I L r) = some (nI 0, pm J (up2 K 148 0 (wd v)) r') ∧ cS J K r' A' n' H' t' T' P' k' (B + 1000) ∧ ∀ a, 130 ≤ a → a < 148 → J a = I a ∧ K a = L a) (hM : ∀ J K r', mS J A n H t T P k → ∃ J' K', fM (pm J K r') = some (v, pm J' K' r') ∧ J' 130 4 = nI 0 ∧ mS J' A' n' H' t' T' P' k' ∧ mO J J' K K') (hA' : aS A' n' H' t' T' P' k' (B + 1000)) : opK fL fM wd I L r A n H t T P k B := by
  obtain ⟨J, K, r', e1, e2, e3⟩ := hL
  refine ⟨0, v, A', n', H', t', T', P', k', by decide, ⟨J, _, r', e1, fun _ => up2_eq, cS_fr e2 (fun a h1 _ => ⟨rfl, up2_a (by omega)⟩), fun a h1 h2 => ⟨(e3 a h1 h2).1, by rw [up2_a (by omega)]; exact (e3 a h1 h2).2⟩⟩, ?_, hA'⟩
  intro J K r' hJ
  obtain ⟨J', K', f1, f2, f3, f4⟩ := hM J K r' hJ
  exact ⟨v, J', K', f1, fun _ => rfl, f2, f3, f4⟩
set_option maxRecDepth 8192 in
theorem opK_rf {β : Type} {fL : hb_M → Option (Int32 × hb_M)} {fM : hb_M → Option (β × hb_M)} {wd : β → Int64} (v : β) {c : Nat} (hc : c ≤ 3) (h0 : c ≠ 0) (hL : fL (pm I L r) = some (nI c, pm I L r)) (hM : ∀ J K r', mS J A n H t T P k → fM (pm J K r') = some (v, pm (up2 J 130 4 (nI c)) K r')) (hC : cS I L r A n H t T P k B) (hA : aS A n H t T P k B) (hB : B + 1000 < 2 ^ 29) : opK fL fM wd I L r A n H t T P k B := opK_no v hc h0 hL (fun J K r' hJ => ⟨v, _, K, hM J K r' hJ, up2_eq, mK_rf, mO_rf⟩) hC hA hB
/-! a call that only asks -/
set_option maxRecDepth 8192 in
theorem opK_ask {β : Type} {fL : hb_M → Option (Int32 × hb_M)} {fM : hb_M → Option (β × hb_M)} {wd : β → Int64} (v : β) (hL : ∃ J K, fL (pm I L r) = some (nI 0, pm J (up2 K 148 0 (wd v)) r) ∧ cS J K r A n H t T P k B ∧ ∀ a, 130 ≤ a → a < 148 → J a = I a ∧ K a = L a) (hM : ∀ J K r', mS J A n H t T P k → ∃ J' K', fM (pm J K r') = some (v, pm J' K' r') ∧ J' 130 4 = nI 0 ∧ mK J J' ∧ mO J J' K K') (hA : aS A n H t T P k B) (hB : B + 1000 < 2 ^ 29) : opK fL fM wd I L r A n H t T P k B := by
  obtain ⟨J, K, e1, e2, e3⟩ := hL
  refine opK_yes v ⟨J, K, r, e1, cS_le e2 (by omega), e3⟩ ?_ (aS_le hA (by omega) hB)
  intro J K r' hJ
  obtain ⟨J', K', f1, f2, f3, f4⟩ := hM J K r' hJ
  exact ⟨J', K', f1, f2, mS_fr hJ f3, f4⟩
set_option maxRecDepth 8192 in
theorem opD_ask {β : Type} {fX fM : hb_M → Option (β × hb_M)} (v : β) (hX : ∃ J K, fX (pm I L r) = some (v, pm J K r) ∧ cS J K r A n H t T P k B ∧ ∀ a, 130 ≤ a → a < 148 → J a = I a ∧ K a = L a) (hM : ∀ J K r', mS J A n H t T P k → ∃ J' K', fM (pm J K r') = some (v, pm J' K' r') ∧ mK J J' ∧ mO J J' K K') (hA : aS A n H t T P k B) (hB : B + 1000 < 2 ^ 29) : opD fX fM I L r A n H t T P k B := by
  obtain ⟨J, K, e1, e2, e3⟩ := hX
  refine ⟨v, A, n, H, t, T, P, k, ⟨J, K, r, e1, cS_le e2 (by omega), e3⟩, ?_, aS_le hA (by omega) hB⟩
  intro J K r' hJ
  obtain ⟨J', K', f1, f3, f4⟩ := hM J K r' hJ
  exact ⟨J', K', f1, mS_fr hJ f3, f4⟩
/-! the law's helpers: an answer, an exception -/
set_option maxRecDepth 8192 in
theorem xc_in {f : Option ((String ⊕ Int32) × hb_M)} {v : Int32} {r' : Nat → Option Nat} {kE : String → hb_M → Option (Int32 × hb_M)} (h : f = some (.inr v, pm J K r')) : (hb_xc (hb_on (pm I L r) 0 8 f) kE fun v1 r1 => (hb_last r1 148 (0 : Int32) v1.toInt64).bind fun r2 => some ((0 : Int32), r2)) = some (nI 0, pm J (up2 K 148 0 v.toInt64) r') := by
  rw [pO_0, h, xc_r, show (0 : Int32) = nI 0 from rfl, pS_148 (by decide)]
  rfl
set_option maxRecDepth 8192 in
theorem xc_ex {α : Type} {f : Option ((String ⊕ α) × hb_M)} {E : String} {σ : hb_M} {kE : String → hb_M → Option (Int32 × hb_M)} {q : α → hb_M → Option (Int32 × hb_M)} (h : f = some (.inl E, σ)) : hb_xc (hb_on (pm I L r) 0 8 f) kE q = kE E σ := by
  rw [pO_0, h, xc_l]
set_option maxRecDepth 8192 in
theorem od_classes (hC : cS I L r A n H t T P k B) (hA : aS A n H t T P k B) (hB : B + 1000 < 2 ^ 29) : opD (fun σ => f_X8_classes 0 σ) (fun σ => f_X9_classes 130 σ) I L r A n H t T P k B := by
  refine opD_ask (nI (A 40 0)) ⟨I, L, ?_, hC, fun _ _ _ => ⟨rfl, rfl⟩⟩ ?_ hA hB
  · unfold f_X8_classes
    simp only [pR_0_0, pbs, pI_h_0 hp_1, hC.1.1]
  · intro J K r' hJ
    refine ⟨_, K, ?_, mK_rf (x := nI 0), mO_rf⟩
    unfold f_X9_classes
    simp (disch := omega) only [plit, pP_130_4, pbs, pR_130_0, pA_131, up2_ne, hJ.1.1]
set_option maxRecDepth 8192 in
theorem od_objects (hC : cS I L r A n H t T P k B) (hA : aS A n H t T P k B) (hB : B + 1000 < 2 ^ 29) : opD (fun σ => f_X8_objects 0 σ) (fun σ => f_X9_objects 130 σ) I L r A n H t T P k B := by
  refine opD_ask (nI (fb_ct (pa_al A) 40)) ⟨I, L, ?_, hC, fun _ _ _ => ⟨rfl, rfl⟩⟩ ?_ hA hB
  · unfold f_X8_objects
    simp only [pR_0_0, pbs, pO_h hp_1, x4_objectCount hp_1 hC.1 hA.2.1]
  · intro J K r' hJ
    refine ⟨_, K, ?_, mK_rf (x := nI 0), mO_rf⟩
    unfold f_X9_objects
    simp only [plit, pP_130_4, pbs, pO_130, r9_many (mS_row (mS_fr hJ mK_rf)) hA.2.1]
set_option maxRecDepth 8192 in
theorem od_exists (x : Int32) (hC : cS I L r A n H t T P k B) (hA : aS A n H t T P k B) (hB : B + 1000 < 2 ^ 29) : opD (fun σ => f_X8_exists 0 x σ) (fun σ => f_X9_exists 130 x σ) I L r A n H t T P k B := by
  refine opD_ask (bI (pa_isO A x)) ⟨I, L, ?_, hC, fun _ _ _ => ⟨rfl, rfl⟩⟩ ?_ hA hB
  · unfold f_X8_exists
    simp only [pR_0_0, pbs, pO_h hp_1, x4_hasObject hp_1 hC.1 hA.2.1, pz_zr]
  · intro J K r' hJ
    refine ⟨_, K, ?_, mK_rf (x := nI 0), mO_rf⟩
    unfold f_X9_exists
    simp only [plit, pP_130_4, pbs, pO_130, r9_isObject (mS_row (mS_fr hJ mK_rf)) hA.2.1, pz_zr]
set_option maxRecDepth 8192 in
theorem r9_cBelow (hN : pr_row (I 131) A) (w : pa_wf A) {c : Nat} (hc : c < A 40 0) : f_X9_classBy_b40 hb_FU 130 (nI c) (nI 0) (nI 0) (pm I L r) = some (nI (fb_ct (fun j => decide (A 41 j = c + 1)) (A 40 0)), pm I L r) := by
  have h10 := pa_cc10 w
  have hl := pm_loop (fun n a i => f_X9_classBy_b40 n 130 (nI c) a (nI i) (pm I L r)) (fun i a => a + nI (pb_b (decide (A 41 i = c + 1)))) (A 40 0) (out := fun a => some (a, pm I L r)) (by
    intro n a i hi
    have hr := (hN.2.2.1 i (by omega)).1
    have hs := pa_sup w hi
    simp (disch := omega) only [f_X9_classBy_b40, f_X9_classBy_b70, pbs, pO_130, pR_130_0, pA_131, pS_131, plit, nI_add, pk_mul, pn_le, pn_lt, if_true, if_false, reduceIte, hN.1, hr, mI_nI]
    rw [if_neg (show ¬ A 40 0 ≤ i from by omega)]
    by_cases e : A 41 i = c + 1
    · simp [e, pb_b]
    · simp [e, pb_b]) (by
    intro n a
    simp (disch := omega) only [f_X9_classBy_b40, pbs, pO_130, pR_130_0, pA_131, pS_131, plit, nI_add, pk_mul, pn_le, pn_lt, if_true, if_false, reduceIte, hN.1, Nat.le_refl]) (nI 0) hb_FU (Nat.lt_of_le_of_lt h10 (by decide))
  refine hl.trans ?_
  rw [pm_fold_sum, Nat.zero_add, pc_ct]
set_option maxRecDepth 8192 in
theorem r9_classBy (hN : pr_row (I 131) A) (w : pa_wf A) {c k : Nat} (hc : c < A 40 0) (hk : k < 4) : f_X9_classBy 130 (nI c) (nI k) (pm I L r) = some (pa_cf A c k, pm I L r) := by
  have h10 := pa_cc10 w
  have r1 := (hN.2.2.1 c (by omega)).1
  unfold f_X9_classBy pa_cf
  simp (disch := omega) only [pbs, pO_130, pR_130_0, pA_131, pS_131, plit, nI_add, pk_mul, pn_le, pn_lt, if_true, if_false, reduceIte, pn_eq, r1, r9_fieldsOf hN w hc, r9_sizeOfClass hN w hc, r9_cBelow hN w hc]
  split
  · rfl
  · split
    · rfl
    · split <;> rfl
set_option maxRecDepth 8192 in
theorem ok_classInfo (x y : Int32) (hC : cS I L r A n H t T P k B) (hA : aS A n H t T P k B) (hB : B + 1000 < 2 ^ 29) : opK (fun σ => f_L_classInfo 0 x y 148 σ) (fun σ => f_X9_classInfo 130 x y σ) Int32.toInt64 I L r A n H t T P k B := by
  have w := hA.2.1
  have h10 := pa_cc10 w
  have hX : f_X8_classInfo 0 x y (pm I L r) = hb_xb (f_X8_refuse (nI (pz_of (pa_isC A x) y 3)) (pm I L r)) fun v4 r4 => (hb_getR r4 0 8 0).bind fun r5 => (hb_on r4 r5 4 (f_X4_classFact r5 x y r4)).bind fun r6 => some (.inr r6.1, r6.2) := by
    unfold f_X8_classInfo
    simp (disch := decide) only [pR_0_0, pbs, pO_h hp_1, x4_hasClass hp_1 hC.1 w, plit, x8_problemOf]
  rw [pz_xb (pz_of_le _ _ _)] at hX
  cases e : pn_at (A 40 0) x with
  | none =>
    have hi : pa_isC A x = false := by unfold pa_isC; rw [e]; rfl
    rw [hi] at hX
    refine opK_no (nI 0) (c := 1) (by decide) (by decide) ?_ ?_ hC hA hB
    · show f_L_classInfo 0 x y 148 (pm I L r) = _
      unfold f_L_classInfo
      rw [xc_ex hX]
      rfl
    · intro J K r' hJ
      refine ⟨nI 0, _, K, ?_, up2_eq, mK_rf, mO_rf⟩
      unfold f_X9_classInfo f_X9_classInfo_b27
      simp (disch := omega) only [pbs, pO_130, pR_130_0, pA_131, pS_131, plit, nI_add, pk_mul, pn_le, pn_lt, if_true, if_false, reduceIte, r9_isClass hJ.1 w, hi, bIn, r9_rf]
      rfl
  | some c =>
    obtain ⟨hc, hx⟩ := pn_at_some (by omega) e
    subst hx
    have hi : pa_isC A (nI c) = true := by unfold pa_isC; rw [e]; rfl
    rw [hi] at hX
    cases e2 : pn_at (3 + 1) y with
    | none =>
      refine opK_no (nI 0) (c := 2) (by decide) (by decide) ?_ ?_ hC hA hB
      · show f_L_classInfo 0 (nI c) y 148 (pm I L r) = _
        unfold f_L_classInfo
        unfold pz_of at hX
        simp only [e2, if_true, Option.isSome_none, Bool.false_eq_true, if_false] at hX
        rw [xc_ex (by rw [hX]; rfl)]
        rfl
      · intro J K r' hJ
        refine ⟨nI 0, _, K, ?_, up2_eq, mK_rf, mO_rf⟩
        unfold f_X9_classInfo f_X9_classInfo_b27
        simp (disch := omega) only [pbs, pO_130, pR_130_0, pA_131, pS_131, plit, nI_add, pk_mul, pn_le, pn_lt, if_true, if_false, reduceIte, r9_isClass hJ.1 w, hi, bIn, Bool.true_eq_false, r9_in (show 3 + 1 < 2 ^ 31 from by decide), e2, Option.isSome_none, r9_rf]
        rfl
    | some q =>
      obtain ⟨hq, hy⟩ := pn_at_some (by omega) e2
      subst hy
      refine opK_ask (pa_cf A c q) ⟨I, L, ?_, hC, fun _ _ _ => ⟨rfl, rfl⟩⟩ ?_ hA hB
      · show f_L_classInfo 0 (nI c) (nI q) 148 (pm I L r) = _
        unfold f_L_classInfo
        unfold pz_of at hX
        simp only [e2, if_true, Option.isSome_some, pR_0_0, pbs, pO_h hp_1, x4_classFact hp_1 hC.1 w hc hq] at hX
        exact xc_in hX
      · intro J K r' hJ
        refine ⟨_, K, ?_, up2_eq, mK_rf, mO_rf⟩
        unfold f_X9_classInfo f_X9_classInfo_b27
        simp (disch := omega) only [pbs, pO_130, pR_130_0, pA_131, pS_131, plit, nI_add, pk_mul, pn_le, pn_lt, if_true, if_false, reduceIte, r9_isClass hJ.1 w, hi, bIn, Bool.true_eq_false, r9_in (show 3 + 1 < 2 ^ 31 from by decide), e2, Option.isSome_some, r9_rf, r9_classBy (mS_row (mS_fr hJ mK_rf)) w hc hq, ne_eq, not_true, decide_false]
end OP1
