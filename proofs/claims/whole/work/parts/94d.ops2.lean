/-! calls that change the heap -/
def pw_b (v : Int32) : Int64 := if v = 0 then 0 else 1
set_option maxRecDepth 8192 in
theorem pw_low {A : Nat → Nat → Nat} (h : fb_ct (pa_al A) 40 < 40) : ∃ o, o < 40 ∧ A o 0 = 0 ∧ ∀ p, p < o → A p 0 ≠ 0 := by
  cases e : pf1 (fun o => !pa_al A o) 40 with
  | zero =>
    have h2 := pf1_none e
    have := (fb_ct_all (p := pa_al A) (n := 40)).mpr (fun k hk => by
      have := h2 k hk
      simpa using this)
    omega
  | succ o =>
    obtain ⟨h1, h2, h3⟩ := pf1_some e
    refine ⟨o, h1, ?_, fun p hp => ?_⟩
    · simpa [pa_al] using h2
    · have := h3 p hp
      simpa [pa_al] using this
set_option maxRecDepth 8192 in
theorem pk_or {v k : Nat} (hv : v ≤ 7) (hk : k < 3) : nI v ||| ((1 : Int32) <<< (nI k &&& 31)) = nI (v ||| 2 ^ k) ∧ v ||| 2 ^ k ≤ 7 := by
  have key : ∀ v, v < 8 → ∀ k, k < 3 → nI v ||| ((1 : Int32) <<< (nI k &&& 31)) = nI (v ||| 2 ^ k) ∧ v ||| 2 ^ k ≤ 7 := by decide +kernel
  exact key v (by omega) k hk
set_option maxRecDepth 8192 in
theorem pk_an {v k : Nat} (hv : v ≤ 7) (hk : k < 3) : nI v &&& (((1 : Int32) <<< (nI k &&& 31)) ^^^ (-1 : Int32)) = nI (v &&& (7 - 2 ^ k)) ∧ v &&& (7 - 2 ^ k) ≤ 7 := by
  have key : ∀ v, v < 8 → ∀ k, k < 3 → nI v &&& (((1 : Int32) <<< (nI k &&& 31)) ^^^ (-1 : Int32)) = nI (v &&& (7 - 2 ^ k)) ∧ v &&& (7 - 2 ^ k) ≤ 7 := by decide +kernel
  exact key v (by omega) k hk
section OP2
variable {I J : Nat → Nat → Int32} {L K : Nat → Nat → Int64} {r : Nat → Option Nat} {A : Nat → Nat → Nat} {n : Nat} {H : Nat → Nat → Nat → Nat} {t : Nat} {T : Nat → Nat} {P : Nat → Nat → Nat → Nat} {k : Nat → Bool} {B : Nat}
set_option maxRecDepth 8192 in
theorem aS_heap {A' : Nat → Nat → Nat} (hA : aS A n H t T P k B) (w : pa_wf A') (h1 : A' 40 1 ≤ B + 1000) (hB : B + 1000 < 2 ^ 29) : aS A' n H t T P k (B + 1000) := by
  obtain ⟨h0, -, -, h3, h4, h5⟩ := hA
  exact ⟨hB, w, h1, h3, fun i hi => ⟨(h4 i hi).1, by have := (h4 i hi).2; omega⟩, h5⟩
/-! the reference's row has changed -/
set_option maxRecDepth 8192 in
theorem mS_now {A' : Nat → Nat → Nat} (h : mS I A n H t T P k) (hr : pr_row (J 131) A') (e : ∀ a, a ≠ 131 → J a = I a) : mS J A' n H t T P k := by
  obtain ⟨h1, h2, h3, h4, h5⟩ := h
  refine ⟨hr, by rw [e 130 (by decide)]; exact h2, fun i hi => by rw [e 132 (by decide)]; exact h3 i hi, ⟨by rw [e 130 (by decide)]; exact h4.1, fun j hj => by rw [e 134 (by decide)]; exact h4.2 j hj⟩, mP_fr h5 (fun a _ _ => e a (by omega))⟩
/-! saved first, then changed: both sides -/
set_option maxRecDepth 8192 in
theorem opK_mut {fL : hb_M → Option (Int32 × hb_M)} {fM : hb_M → Option (Int32 × hb_M)} {wd : Int32 → Int64} (v : Int32) {A' : Nat → Nat → Nat} (hL : ∀ J r', f_X5_save 29 1 (pm I L r) = some (pm J L r') → ph_rep J 1 A → ∃ J2, fL (pm I L r) = some (nI 0, pm J2 (up2 L 148 0 (wd v)) r') ∧ ph_rep J2 1 A' ∧ J2 1 12 = J 1 12 + nI 1 ∧ ∀ a, 11 < a → J2 a = J a) (hM : ∀ J K r' J1, f_X9_saves 130 (pm (up2 J 130 4 (nI 0)) K r') = some (pm J1 K r') → mS J A n H t T P k → pr_row (J1 131) A → ∃ J2, fM (pm J K r') = some (v, pm J2 K r') ∧ pr_row (J2 131) A' ∧ ∀ a, a ≠ 131 → J2 a = J1 a) (w' : pa_wf A') (h1 : A' 40 1 ≤ B + 1000) (hC : cS I L r A n H t T P k B) (hA : aS A n H t T P k B) (hB : B + 1000 < 2 ^ 29) : opK fL fM wd I L r A n H t T P k B := by
  have w := hA.2.1
  have hB0 := hA.1
  refine opK_yes (A' := A') (n' := hS_n n) (H' := hS_H n H A) (t' := t) (T' := T) (P' := P) (k' := k) v ?_ ?_ (aS_heap (aS_save hA) w' h1 hB)
  · obtain ⟨J, r', e1, e2, e3⟩ := x5_save hC w
    obtain ⟨J2, f1, f2, f3, f4⟩ := hL J r' e1 e2.1
    refine ⟨J2, L, r', f1, cS_le (cS_heap e2 (by omega) f2 f3 f4) (by omega), fun a a1 _ => ⟨by rw [f4 a (by omega), e3 a (by omega)], rfl⟩⟩
  · intro J K r' hJ
    obtain ⟨J1, e1, e2, e3, e4, e5⟩ := r9_saves (L := K) (r := r') (mS_fr hJ (mK_rf (x := nI 0))) hA.2.2.2.1
    obtain ⟨J2, f1, f2, f3⟩ := hM J K r' J1 e1 hJ e2.1
    refine ⟨J2, K, f1, ?_, mS_now e2 f2 f3, fun a ha => ⟨?_, rfl⟩⟩
    · rw [f3 130 (by decide), e4 4 (by decide), up2_eq]
    · rw [f3 a (by omega), (e3 a ha).1, up2_a (by omega)]
set_option maxRecDepth 8192 in
theorem x4_addInstance {h c o : Nat} (hh : pm_hp h) (hR : ph_rep I h A) (w : pa_wf A) (hc : c < A 40 0) (ho : o < 40) (h0 : A o 0 = 0) (hm : ∀ p, p < o → A p 0 ≠ 0) : f_X4_addInstance h (nI c) (pm I L r) = some (nI o, pm (pu_new I h o (nI (A 40 1)) c (pa_fo A c) (pa_sc A c)) L r) := by
  have h10 := pa_cc10 w
  have hr := (hR.2.2.1 c hc).2.1
  unfold f_X4_addInstance
  simp (disch := omega) only [pbs, pO_h hh, pR_h_1 hh, pA_h_1 hh, pS_h_1 hh, pR_h_2 hh, pA_h_2 hh, pS_h_2 hh, pR_h_3 hh, pA_h_3 hh, pS_h_3 hh, pR_h_4 hh, pA_h_4 hh, pS_h_4 hh, pR_h_5 hh, pA_h_5 hh, pS_h_5 hh, pR_h_6 hh, pA_h_6 hh, pS_h_6 hh, pR_h_7 hh, pA_h_7 hh, pS_h_7 hh, pR_h_8 hh, pA_h_8 hh, pS_h_8 hh, pR_h_9 hh, pA_h_9 hh, pS_h_9 hh, pR_h_10 hh, pA_h_10 hh, pS_h_10 hh, pI_h_0 hh, pP_h_0 hh, pI_h_11 hh, pP_h_11 hh, pI_h_12 hh, pP_h_12 hh, plit, nI_add, pk_mul, pn_le, pn_lt, if_true, if_false, reduceIte, x4_hasClass hh hR w, pa_isC_nI w, hc, decide_true, bIn, Bool.true_eq_false, hr, x4_sizeOfInstance hh hR w hc, x4_addObject hh hR w ho h0 hm]
set_option maxRecDepth 8192 in
theorem x4_addArray {h m o : Nat} (hh : pm_hp h) (hR : ph_rep I h A) (w : pa_wf A) (hm8 : m ≤ 8) (ho : o < 40) (h0 : A o 0 = 0) (hm : ∀ p, p < o → A p 0 ≠ 0) : f_X4_addArray h (nI m) (pm I L r) = some (nI o, pm (pu_new I h o (nI (A 40 1)) 10 m (pa_ru (16 + 4 * m))) L r) := by
  unfold f_X4_addArray
  simp only [pbs, pO_h hh, pR_h_1 hh, pA_h_1 hh, pS_h_1 hh, pR_h_2 hh, pA_h_2 hh, pS_h_2 hh, pR_h_3 hh, pA_h_3 hh, pS_h_3 hh, pR_h_4 hh, pA_h_4 hh, pS_h_4 hh, pR_h_5 hh, pA_h_5 hh, pS_h_5 hh, pR_h_6 hh, pA_h_6 hh, pS_h_6 hh, pR_h_7 hh, pA_h_7 hh, pS_h_7 hh, pR_h_8 hh, pA_h_8 hh, pS_h_8 hh, pR_h_9 hh, pA_h_9 hh, pS_h_9 hh, pR_h_10 hh, pA_h_10 hh, pS_h_10 hh, pI_h_0 hh, pP_h_0 hh, pI_h_11 hh, pP_h_11 hh, pI_h_12 hh, pP_h_12 hh, plit, nI_add, pk_mul, pn_le, pn_lt, if_true, if_false, reduceIte, x4_sizeOfArray hm8, x4_addObject hh hR w ho h0 hm]
set_option maxRecDepth 8192 in
theorem x4_addHolder {h o : Nat} (hh : pm_hp h) (hR : ph_rep I h A) (w : pa_wf A) (ho : o < 40) (h0 : A o 0 = 0) (hm : ∀ p, p < o → A p 0 ≠ 0) : f_X4_addHolder h (pm I L r) = some (nI o, pm (pu_new I h o (nI (A 40 1)) 11 1 24) L r) := by
  unfold f_X4_addHolder
  simp only [pbs, pO_h hh, pR_h_1 hh, pA_h_1 hh, pS_h_1 hh, pR_h_2 hh, pA_h_2 hh, pS_h_2 hh, pR_h_3 hh, pA_h_3 hh, pS_h_3 hh, pR_h_4 hh, pA_h_4 hh, pS_h_4 hh, pR_h_5 hh, pA_h_5 hh, pS_h_5 hh, pR_h_6 hh, pA_h_6 hh, pS_h_6 hh, pR_h_7 hh, pA_h_7 hh, pS_h_7 hh, pR_h_8 hh, pA_h_8 hh, pS_h_8 hh, pR_h_9 hh, pA_h_9 hh, pS_h_9 hh, pR_h_10 hh, pA_h_10 hh, pS_h_10 hh, pI_h_0 hh, pP_h_0 hh, pI_h_11 hh, pP_h_11 hh, pI_h_12 hh, pP_h_12 hh, plit, nI_add, pk_mul, pn_le, pn_lt, if_true, if_false, reduceIte, x4_addObject hh hR w ho h0 hm]
/-! the size of a new object -/
set_option maxRecDepth 8192 in
theorem pa_so_new {o g s : Nat} (ho : o < 40) : pa_so (pa_new A o g s) o = if g = 11 then 24 else if g = 10 then pa_ru (16 + 4 * s) else pa_sc A g := by
  have e41 : (41 : Nat) ≠ o := by omega
  have e42 : (42 : Nat) ≠ o := by omega
  have e43 : (43 : Nat) ≠ o := by omega
  unfold pa_so
  rw [show pa_new A o g s o 1 = g from by simp [pa_new], show pa_new A o g s o 2 = s from by simp [pa_new], pa_sc_cong (A := A) (fun c => by simp [pa_new, e41]) (fun c => by simp [pa_new, e42]) (fun c => by simp [pa_new, e43])]
set_option maxRecDepth 8192 in
theorem pa_new_nx {o g s : Nat} (ho : o < 40) : pa_new A o g s 40 1 = A 40 1 + 1 := by
  have : (40 : Nat) ≠ o := by omega
  simp [pa_new, this]
/-! a new object on both sides -/
set_option maxRecDepth 8192 in
theorem opK_new {fL : hb_M → Option (Int32 × hb_M)} {fM : hb_M → Option (Int32 × hb_M)} {g s b o : Nat} (ho : o < 40) (hg : g < A 40 0 ∧ s = pa_fo A g ∨ g = 10 ∧ s ≤ 8 ∨ g = 11 ∧ s = 1) (hb : b = if g = 11 then 24 else if g = 10 then pa_ru (16 + 4 * s) else pa_sc A g) (hL : ∀ J r', f_X5_save 29 1 (pm I L r) = some (pm J L r') → ph_rep J 1 A → fL (pm I L r) = some (nI 0, pm (pu_new J 1 o (nI (A 40 1)) g s b) (up2 L 148 0 (nI o).toInt64) r')) (hM : ∀ J K r' J1, f_X9_saves 130 (pm (up2 J 130 4 (nI 0)) K r') = some (pm J1 K r') → mS J A n H t T P k → pr_row (J1 131) A → fM (pm J K r') = some (nI o, pm (pv_new J1 o (nI (A 40 1)) g s) K r')) (hC : cS I L r A n H t T P k B) (hA : aS A n H t T P k B) (hB : B + 1000 < 2 ^ 29) : opK fL fM Int32.toInt64 I L r A n H t T P k B := by
  have w := hA.2.1
  have hA0 := hA.2.2.1
  refine opK_mut (A' := pa_new A o g s) (nI o) ?_ ?_ (pa_wf_new w ho (by omega) hg) (by rw [pa_new_nx ho]; omega) hC hA hB
  · intro J r' e1 e2
    exact ⟨_, hL J r' e1 e2, ph_new e2 w ho (by rw [hb, pa_so_new ho]), pu_new_v, fun a ha => pu_new_fr a (by omega)⟩
  · intro J K r' J1 e1 e2 e3
    exact ⟨_, hM J K r' J1 e1 e2 e3, pr_new e3 ho, fun a ha => pv_new_ne ha⟩
set_option maxRecDepth 8192 in
theorem r9_full (hN : pr_row (I 131) A) (w : pa_wf A) : (nI (fb_ct (pa_al A) 40) = nI 40) = ¬ fb_ct (pa_al A) 40 < 40 := by
  have := fb_ct_le (pa_al A) 40
  rw [pn_eq (by omega) (by omega)]
  exact propext ⟨fun _ => by omega, fun _ => by omega⟩
set_option maxRecDepth 8192 in
theorem ok_newHolder (hC : cS I L r A n H t T P k B) (hA : aS A n H t T P k B) (hB : B + 1000 < 2 ^ 29) : opK (fun σ => f_L_newHolder 0 148 σ) (fun σ => f_X9_newHolder 130 σ) Int32.toInt64 I L r A n H t T P k B := by
  have w := hA.2.1
  have hX : f_X8_newHolder 0 (pm I L r) = hb_xb (f_X8_refuse (nI (pz_full A)) (pm I L r)) fun v3 r3 => (hb_getR r3 0 8 2).bind fun r4 => (hb_getR r3 0 8 0).bind fun r5 => (hb_on r3 r4 5 (f_X5_save r4 r5 r3)).bind fun r6 => (hb_getR r6 0 8 0).bind fun r7 => (hb_on r6 r7 4 (f_X4_addHolder r7 r6)).bind fun r8 => some (.inr r8.1, r8.2) := by
    unfold f_X8_newHolder
    simp only [pR_0_0, pbs, pO_h hp_1, x4_pHolder hp_1 hC.1 w]
  rw [pz_xb (pz_full_le A)] at hX
  unfold pz_full at hX
  by_cases e : fb_ct (pa_al A) 40 < 40
  · obtain ⟨o, ho, h0, hm⟩ := pw_low e
    rw [if_pos e, if_pos rfl] at hX
    refine opK_new (g := 11) (s := 1) (b := 24) ho (Or.inr (Or.inr ⟨rfl, rfl⟩)) rfl ?_ ?_ hC hA hB
    · intro J r' e1 e2
      show f_L_newHolder 0 148 (pm I L r) = _
      unfold f_L_newHolder
      refine xc_in ?_
      rw [hX]
      simp only [pR_0_0, pR_0_2, pbs, pO_29, e1, pO_h hp_1, x4_addHolder hp_1 e2 w ho h0 hm]
    · intro J K r' J1 e1 e2 e3
      have hN := mS_row (mS_fr e2 (mK_rf (x := nI 0)))
      unfold f_X9_newHolder f_X9_newHolder_b15
      simp only [plit, pO_130, pbs, r9_many e2.1 w, r9_full e2.1 w, e, not_true, if_false, r9_rf (show 0 ≤ 100 from by decide), bIn, e1, r9_creates e3 w ho h0 hm, ne_eq, decide_false, if_true]
  · rw [if_neg e, if_neg (by decide)] at hX
    refine opK_rf (nI 0) (c := 1) (by decide) (by decide) ?_ ?_ hC hA hB
    · show f_L_newHolder 0 148 (pm I L r) = _
      unfold f_L_newHolder
      rw [xc_ex hX]
      exact if_pos rfl
    · intro J K r' hJ
      show f_X9_newHolder 130 (pm J K r') = _
      unfold f_X9_newHolder f_X9_newHolder_b15
      simp only [plit, pO_130, pbs, r9_many hJ.1 w, r9_full hJ.1 w, e, not_false_eq_true, if_true, r9_rf (show 1 ≤ 100 from by decide), bIn]
      rfl
set_option maxRecDepth 8192 in
theorem ok_newInstance (x : Int32) (hC : cS I L r A n H t T P k B) (hA : aS A n H t T P k B) (hB : B + 1000 < 2 ^ 29) : opK (fun σ => f_L_newInstance 0 x 148 σ) (fun σ => f_X9_newInstance 130 x σ) Int32.toInt64 I L r A n H t T P k B := by
  have w := hA.2.1
  have h10 := pa_cc10 w
  have hX : f_X8_newInstance 0 x (pm I L r) = hb_xb (f_X8_refuse (nI (pz_ins A x)) (pm I L r)) fun v3 r3 => (hb_getR r3 0 8 2).bind fun r4 => (hb_getR r3 0 8 0).bind fun r5 => (hb_on r3 r4 5 (f_X5_save r4 r5 r3)).bind fun r6 => (hb_getR r6 0 8 0).bind fun r7 => (hb_on r6 r7 4 (f_X4_addInstance r7 x r6)).bind fun r8 => some (.inr r8.1, r8.2) := by
    unfold f_X8_newInstance
    simp only [pR_0_0, pbs, pO_h hp_1, x4_pInstance hp_1 hC.1 w]
  rw [pz_xb (pz_ins_le A x)] at hX
  unfold pz_ins pz_full at hX
  have hMr : ∀ (J : Nat → Nat → Int32) (K : Nat → Nat → Int64) (r' : Nat → Option Nat), mS J A n H t T P k → f_X9_instanceRefusal 130 x (pm J K r') = some (nI (if pa_isC A x = true then (if fb_ct (pa_al A) 40 < 40 then 0 else 2) else 1), pm J K r') := by
    intro J K r' hJ
    unfold f_X9_instanceRefusal
    simp only [plit, pO_130, pbs, r9_isClass hJ.1 w, bIn, r9_many hJ.1 w, r9_full hJ.1 w]
    cases pa_isC A x
    · rfl
    · by_cases e : fb_ct (pa_al A) 40 < 40
      · simp [e]
      · simp [e]
  cases e0 : pn_at (A 40 0) x with
  | none =>
    have hi : pa_isC A x = false := by unfold pa_isC; rw [e0]; rfl
    rw [hi] at hX hMr
    refine opK_rf (nI 0) (c := 1) (by decide) (by decide) ?_ ?_ hC hA hB
    · show f_L_newInstance 0 x 148 (pm I L r) = _
      unfold f_L_newInstance
      rw [xc_ex hX]
      exact if_pos rfl
    · intro J K r' hJ
      show f_X9_newInstance 130 x (pm J K r') = _
      unfold f_X9_newInstance
      simp only [pO_130, pbs, hMr J K r' hJ, Bool.false_eq_true, if_false, r9_rf (show 1 ≤ 100 from by decide), plit, bIn]
      rfl
  | some c =>
    obtain ⟨hc, hx⟩ := pn_at_some (by omega) e0
    subst hx
    have hi : pa_isC A (nI c) = true := by unfold pa_isC; rw [e0]; rfl
    rw [hi, if_pos rfl] at hX
    rw [hi] at hMr
    by_cases e : fb_ct (pa_al A) 40 < 40
    · obtain ⟨o, ho, h0, hm⟩ := pw_low e
      rw [if_pos e, if_pos rfl] at hX
      refine opK_new (g := c) (s := pa_fo A c) (b := pa_sc A c) ho (Or.inl ⟨hc, rfl⟩) (by rw [if_neg (by omega), if_neg (by omega)]) ?_ ?_ hC hA hB
      · intro J r' e1 e2
        show f_L_newInstance 0 (nI c) 148 (pm I L r) = _
        unfold f_L_newInstance
        refine xc_in ?_
        rw [hX]
        simp only [pR_0_0, pR_0_2, pbs, pO_29, e1, pO_h hp_1, x4_addInstance hp_1 e2 w hc ho h0 hm]
      · intro J K r' J1 e1 e2 e3
        unfold f_X9_newInstance
        simp only [pO_130, pbs, hMr J K r' e2, e, if_true, r9_rf (show 0 ≤ 100 from by decide), plit, bIn, e1, r9_fieldsOf e3 w hc, r9_creates e3 w ho h0 hm, ne_eq, not_true, decide_false]
    · rw [if_neg e, if_neg (by decide)] at hX
      refine opK_rf (nI 0) (c := 2) (by decide) (by decide) ?_ ?_ hC hA hB
      · show f_L_newInstance 0 (nI c) 148 (pm I L r) = _
        unfold f_L_newInstance
        rw [xc_ex hX]
        exact (if_neg pe_31).trans (if_pos rfl)
      · intro J K r' hJ
        show f_X9_newInstance 130 (nI c) (pm J K r') = _
        unfold f_X9_newInstance
        simp only [pO_130, pbs, hMr J K r' hJ, e, if_true, if_false, r9_rf (show 2 ≤ 100 from by decide), plit, bIn]
        rfl
set_option maxRecDepth 8192 in
theorem ok_newArray (x : Int32) (hC : cS I L r A n H t T P k B) (hA : aS A n H t T P k B) (hB : B + 1000 < 2 ^ 29) : opK (fun σ => f_L_newArray 0 x 148 σ) (fun σ => f_X9_newArray 130 x σ) Int32.toInt64 I L r A n H t T P k B := by
  have w := hA.2.1
  have hX : f_X8_newArray 0 x (pm I L r) = hb_xb (f_X8_refuse (nI (pz_arr A x)) (pm I L r)) fun v3 r3 => (hb_getR r3 0 8 2).bind fun r4 => (hb_getR r3 0 8 0).bind fun r5 => (hb_on r3 r4 5 (f_X5_save r4 r5 r3)).bind fun r6 => (hb_getR r6 0 8 0).bind fun r7 => (hb_on r6 r7 4 (f_X4_addArray r7 x r6)).bind fun r8 => some (.inr r8.1, r8.2) := by
    unfold f_X8_newArray
    simp only [pR_0_0, pbs, pO_h hp_1, x4_pArray hp_1 hC.1 w]
  rw [pz_xb (pz_arr_le A x)] at hX
  unfold pz_arr pz_full at hX
  have hMr : ∀ (J : Nat → Nat → Int32) (K : Nat → Nat → Int64) (r' : Nat → Option Nat), mS J A n H t T P k → f_X9_arrayRefusal 130 x (pm J K r') = some (nI (if (pn_at 9 x).isSome then (if fb_ct (pa_al A) 40 < 40 then 0 else 2) else 1), pm J K r') := by
    intro J K r' hJ
    unfold f_X9_arrayRefusal
    simp only [plit, pO_130, pbs, r9_in (show 8 + 1 < 2 ^ 31 from by decide), bIn, r9_many hJ.1 w, r9_full hJ.1 w]
    cases (pn_at (8 + 1) x).isSome
    · rfl
    · by_cases e : fb_ct (pa_al A) 40 < 40
      · simp [e]
      · simp [e]
  cases e0 : pn_at 9 x with
  | none =>
    rw [e0] at hX
    simp only [e0] at hMr
    refine opK_rf (nI 0) (c := 1) (by decide) (by decide) ?_ ?_ hC hA hB
    · show f_L_newArray 0 x 148 (pm I L r) = _
      unfold f_L_newArray
      rw [xc_ex hX]
      exact if_pos rfl
    · intro J K r' hJ
      show f_X9_newArray 130 x (pm J K r') = _
      unfold f_X9_newArray
      simp only [pO_130, pbs, hMr J K r' hJ, Option.isSome_none, Bool.false_eq_true, if_false, r9_rf (show 1 ≤ 100 from by decide), plit, bIn]
      rfl
  | some m =>
    obtain ⟨hm9, hx⟩ := pn_at_some (by omega) e0
    subst hx
    rw [e0] at hX
    simp only [e0] at hMr
    by_cases e : fb_ct (pa_al A) 40 < 40
    · obtain ⟨o, ho, h0, hm⟩ := pw_low e
      simp only [Option.isSome_some, if_true, e] at hX
      refine opK_new (g := 10) (s := m) (b := pa_ru (16 + 4 * m)) ho (Or.inr (Or.inl ⟨rfl, by omega⟩)) rfl ?_ ?_ hC hA hB
      · intro J r' e1 e2
        show f_L_newArray 0 (nI m) 148 (pm I L r) = _
        unfold f_L_newArray
        refine xc_in ?_
        rw [hX]
        simp only [pR_0_0, pR_0_2, pbs, pO_29, e1, pO_h hp_1, x4_addArray hp_1 e2 w (show m ≤ 8 from by omega) ho h0 hm]
      · intro J K r' J1 e1 e2 e3
        unfold f_X9_newArray
        simp only [pO_130, pbs, hMr J K r' e2, e, Option.isSome_some, if_true, r9_rf (show 0 ≤ 100 from by decide), plit, bIn, e1, r9_creates e3 w ho h0 hm, ne_eq, not_true, decide_false]
    · simp only [Option.isSome_some, if_true, e, if_false] at hX
      refine opK_rf (nI 0) (c := 2) (by decide) (by decide) ?_ ?_ hC hA hB
      · show f_L_newArray 0 (nI m) 148 (pm I L r) = _
        unfold f_L_newArray
        rw [xc_ex hX]
        exact (if_neg pe_32).trans (if_pos rfl)
      · intro J K r' hJ
        show f_X9_newArray 130 (nI m) (pm J K r') = _
        unfold f_X9_newArray
        simp only [pO_130, pbs, hMr J K r' hJ, e, Option.isSome_some, if_true, if_false, r9_rf (show 2 ≤ 100 from by decide), plit, bIn]
        rfl
end OP2
