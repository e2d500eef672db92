/-! pictures: comparisons, growth -/
section CMQ
variable {I J : Nat → Nat → Int32} {L K : Nat → Nat → Int64} {r : Nat → Option Nat} {A : Nat → Nat → Nat} {n : Nat} {H : Nat → Nat → Nat → Nat} {t : Nat} {T : Nat → Nat} {P : Nat → Nat → Nat → Nat} {k : Nat → Bool} {B : Nat}
set_option maxRecDepth 8192 in
theorem r9_inPicture {Q : Nat → Nat → Nat} {p v : Nat} (hp : p < 2) (hv : v ≠ 0) (hv2 : v < 2 ^ 31) (hq : ∀ o, o < 40 → I 135 (520 * p + 13 * o) = nI (Q o 0)) (hq2 : ∀ o, o < 40 → Q o 0 < 2 ^ 31) : f_X9_inPicture 130 (nI p) (nI v) (pm I L r) = some (if pa_ws Q v = 0 then -nI 1 else nI (520 * p + 13 * (pa_ws Q v - 1)), pm I L r) := by
  unfold f_X9_inPicture pa_ws
  refine pm_find (fun n i => f_X9_inPicture_b2 n 130 (nI p) (nI v) (nI i) (pm I L r)) (fun o => decide (Q o 0 = v)) 40 (out := fun z => some (if z = 0 then -nI 1 else nI (520 * p + 13 * (z - 1)), pm I L r)) ?_ ?_ ?_ hb_FU (by decide)
  · intro n i hi hpi
    have hpi : ¬ Q i 0 = v := of_decide_eq_false hpi
    have := hq2 i hi
    simp (disch := omega) only [f_X9_inPicture_b2, plit, pn_le, pR_130_7, pbs, pk_mul, nI_add, pA_135, hq i hi, pn_eq, hpi, if_false]
    rw [if_neg (show ¬ 40 ≤ i from by omega)]
  · intro n i hi hpi _
    have hpi : Q i 0 = v := of_decide_eq_true hpi
    simp (disch := omega) only [f_X9_inPicture_b2, plit, pn_le, pR_130_7, pbs, pk_mul, nI_add, pA_135, hq i hi, hpi, if_true]
    rw [if_neg (show ¬ 40 ≤ i from by omega), if_neg (by omega), Nat.add_sub_cancel]
  · intro n _
    rw [f_X9_inPicture_b2, if_pos (by decide)]
    rfl
set_option maxRecDepth 8192 in
theorem r9_hasChanged (hN : pr_row (I 131) A) (w : pa_wf A) {Q : Nat → Nat → Nat} (w2 : pa_wf Q) {p o q : Nat} (hp : p < 2) (ho : o < 40) (ha : A o 0 ≠ 0) (hq : q < 40) (hqa : Q q 0 ≠ 0) (h5 : ∀ j, j < 5 → I 135 (520 * p + 13 * q + j) = nI (Q q j)) (h8 : ∀ s, s < 8 → I 135 (520 * p + 13 * q + 5 + s) = nI (pa_sr Q q s)) : f_X9_hasChanged 130 (nI o) (nI (520 * p + 13 * q)) (pm I L r) = some (bI (pa_df A o Q q), pm I L r) := by
  have c2 := (hN.2.2.2 o ho).1 2 (by decide)
  have c4 := (hN.2.2.2 o ho).1 4 (by decide)
  have d2 := h5 2 (by decide)
  have d4 := h5 4 (by decide)
  have a4 : A o 4 ≤ 7 := (w.2.2.2.1 o ho ha).2.2.1
  have b4 : Q q 4 ≤ 7 := (w2.2.2.2.1 q hq hqa).2.2.1
  have a2 := pa_sl8 w ho ha
  have b2 := pa_sl8 w2 hq hqa
  have hyes : f_X9_hasChanged_b53 hb_FU 130 (nI o) (nI (520 * p + 13 * q)) (nI 1) (nI 0) (pm I L r) = some (bI true, pm I L r) := by
    obtain ⟨F9, hF9⟩ : ∃ F, hb_FU = F + 1 := ⟨4095, rfl⟩
    have hn10 : (nI 1 = nI 0) = False := eq_false (by decide)
    rw [hF9, f_X9_hasChanged_b53]
    simp (disch := omega) only [pbs, pO_130, pR_130_0, pA_131, pS_131, plit, nI_add, pk_mul, pn_le, pn_lt, if_true, if_false, reduceIte, r9_at, c2, hn10]
    have hz : hb_zr (nI 1) (pm I L r) = some (bI true, pm I L r) := pz_zr (b := true)
    rw [hz]
    split <;> rfl
  have hno : f_X9_hasChanged_b53 hb_FU 130 (nI o) (nI (520 * p + 13 * q)) (nI 0) (nI 0) (pm I L r) = some (bI (pq_any (fun s => decide (pa_sr A o s ≠ pa_sr Q q s)) (A o 2)), pm I L r) := by
    refine hw_the (pm_for (fun n (a : Bool) i => f_X9_hasChanged_b53 n 130 (nI o) (nI (520 * p + 13 * q)) (bI a) (nI i) (pm I L r)) (fun i a => a = pq_any (fun s => decide (pa_sr A o s ≠ pa_sr Q q s)) i) (fun s => s = (bI (pq_any (fun s => decide (pa_sr A o s ≠ pa_sr Q q s)) (A o 2)), pm I L r)) (A o 2) ?_ ?_ hb_FU 0 false (by omega) (Nat.lt_of_le_of_lt (show A o 2 - 0 ≤ 8 from by omega) (by decide)) rfl)
    · rintro n a i hi hai
      have e1 := pa_sr_lt w ho ha (show i < 8 from by omega)
      have e2 := pa_sr_lt w2 hq hqa (show i < 8 from by omega)
      rw [f_X9_hasChanged_b53]
      cases a
      · right
        refine ⟨pq_any (fun s => decide (pa_sr A o s ≠ pa_sr Q q s)) (i + 1), ?_, rfl⟩
        simp (disch := omega) only [f_X9_hasChanged_b99, pbs, pO_130, pR_130_0, pA_131, pS_131, plit, nI_add, pk_mul, pn_le, pn_lt, if_true, if_false, reduceIte, r9_at, c2, bIn, r9_serialIn hN w ho ha, pR_130_7, pA_135, h8, pn_eq]
        rw [if_neg (show ¬ A o 2 ≤ i from by omega), pq_any, ← hai]
        by_cases e9 : pa_sr A o i = pa_sr Q q i
        · simp [e9, bI_f]
        · simp [e9, bI_t]
      · left
        have hq9 : pq_any (fun s => decide (pa_sr A o s ≠ pa_sr Q q s)) (A o 2) = true := by
          obtain ⟨j, hj, hj2⟩ := (pq_any_iff _ _).mp hai.symm
          exact (pq_any_iff _ _).mpr ⟨j, by omega, hj2⟩
        simp (disch := omega) only [pbs, pO_130, pR_130_0, pA_131, pS_131, plit, nI_add, pk_mul, pn_le, pn_lt, if_true, if_false, reduceIte, r9_at, c2, bIn, Bool.true_eq_false]
        rw [if_neg (show ¬ A o 2 ≤ i from by omega), hq9]
        exact hw_eq pz_zr rfl
    · rintro n a hai
      rw [f_X9_hasChanged_b53]
      simp (disch := omega) only [pbs, pO_130, pR_130_0, pA_131, pS_131, plit, nI_add, pk_mul, pn_le, pn_lt, if_true, if_false, reduceIte, r9_at, c2, Nat.le_refl]
      rw [hai]
      exact hw_eq pz_zr rfl
  unfold f_X9_hasChanged f_X9_hasChanged_b44 f_X9_hasChanged_b49 pa_df
  simp (disch := omega) only [pbs, pO_130, pR_130_0, pA_131, pS_131, plit, nI_add, pk_mul, pn_le, pn_lt, if_true, if_false, reduceIte, r9_at, c2, c4, pR_130_7, pA_135, d2, d4, pn_eq, hyes, hno]
  by_cases e1 : A o 4 = Q q 4
  · by_cases e2 : A o 2 = Q q 2
    · rw [if_pos e1, if_pos e2]
      have hc : pq_any (fun s => decide (pa_sr A o s ≠ pa_sr Q q s)) 8 = pq_any (fun s => decide (pa_sr A o s ≠ pa_sr Q q s)) (A o 2) := by
        apply Bool.eq_iff_iff.mpr
        rw [pq_any_iff, pq_any_iff]
        constructor
        · rintro ⟨s, hs, h⟩
          refine ⟨s, ?_, h⟩
          apply Classical.byContradiction
          intro hn
          have z1 := ((w.2.2.2.1 o ho ha).2.2.2 s hs).1 (by omega)
          have z2 := ((w2.2.2.2.1 q hq hqa).2.2.2 s hs).1 (by omega)
          simp [pa_sr, z1, z2] at h
        · rintro ⟨s, hs, h⟩
          exact ⟨s, by omega, h⟩
      rw [hc]
      simp [e1, e2]
    · rw [if_pos e1, if_neg e2]
      simp [e2]
  · rw [if_neg e1]
    simp [e1]
def pz_cmp (k : Nat → Bool) (x y : Int32) : Nat := match pn_at 2 x with
  | none => 1
  | some p => if (pn_at 4 y).isSome then (if k p = true then 0 else 3) else 2
set_option maxRecDepth 8192 in
theorem ok_compare (x y : Int32) (hC : cS I L r A n H t T P k B) (hA : aS A n H t T P k B) (hB : B + 1000 < 2 ^ 29) : opK (fun σ => f_L_compare 0 x y 148 σ) (fun σ => f_X9_compare 130 x y σ) Int32.toInt64 I L r A n H t T P k B := by
  have w := hA.2.1
  have hle : pz_cmp k x y ≤ 3 := by
    unfold pz_cmp
    split
    · decide
    · split
      · split <;> decide
      · decide
  have hR : ∀ (J : Nat → Nat → Int32) (K : Nat → Nat → Int64) (r' : Nat → Option Nat), mS J A n H t T P k → f_X9_compare 130 x y (pm J K r') = f_X9_compare_b39 130 x y 130 (nI (pz_cmp k x y)) (pm J K r') := by
    intro J K r' hJ
    unfold f_X9_compare pz_cmp
    simp only [plit, r9_isPicture, pbs, bIn, r9_in (show 3 + 1 < 2 ^ 31 from by decide)]
    cases e : pn_at 2 x with
    | none => rfl
    | some p =>
      obtain ⟨hp, hx⟩ := pn_at_some (by decide) e
      subst hx
      simp only [Option.isSome_some, Bool.true_eq_false, if_false]
      cases (pn_at (3 + 1) y).isSome
      · rfl
      · simp only [Bool.true_eq_false, if_false, pR_130_8, pbs, pA_136 hp, (hJ.2.2.2.2 p hp).1, bIn, if_true]
        cases k p <;> rfl
  have hXr : ∃ Z : hb_M → Option ((String ⊕ Int32) × hb_M), f_X8_compare 0 x y (pm I L r) = if pz_cmp k x y = 0 then Z (pm I L r) else some (.inl (pz_E (pz_cmp k x y)), pm I L r) := by
    refine ⟨fun r1 => (hb_getR r1 0 8 7).bind fun r2 => (hb_aald r1 r2 x).bind fun r3 => if y = (0 : Int32) then (hb_getR r1 0 8 0).bind fun r5 => (hb_on r1 r5 4 (f_X4_countNotIn r5 r3 r1)).bind fun r6 => some (.inr r6.1, r6.2) else if y = (1 : Int32) then (hb_getR r1 0 8 0).bind fun r8 => (hb_on r1 r3 4 (f_X4_countNotIn r3 r8 r1)).bind fun r9 => some (.inr r9.1, r9.2) else if y = (2 : Int32) then (hb_getR r1 0 8 0).bind fun r11 => (hb_on r1 r11 4 (f_X4_countChangedSince r11 r3 r1)).bind fun r12 => some (.inr r12.1, r12.2) else (hb_getR r1 0 8 0).bind fun r13 => (hb_getR r1 0 8 0).bind fun r14 => (hb_on r1 r14 4 (f_X4_allObjects r14 r1)).bind fun r15 => (hb_on r15.2 r13 4 (f_X4_sizeOfAll r13 r15.1 r15.2)).bind fun r16 => (hb_on r16.2 r3 4 (f_X4_allObjects r3 r16.2)).bind fun r17 => (hb_on r17.2 r3 4 (f_X4_sizeOfAll r3 r17.1 r17.2)).bind fun r18 => some (.inr (r16.1 - r18.1), r18.2), ?_⟩
    unfold f_X8_compare f_X8_compare_b26 pz_cmp
    simp (disch := decide) only [x8_isPicture, pbs, show (3 : Int32) = nI 3 from rfl, x8_problemOf]
    rw [pz_xb (pz_of_le _ _ _)]
    unfold pz_of
    cases e : pn_at 2 x with
    | none => rfl
    | some p =>
      obtain ⟨hp, hx⟩ := pn_at_some (by decide) e
      subst hx
      simp only [Option.isSome_some, if_true]
      cases (pn_at (3 + 1) y).isSome
      · rfl
      · simp only [if_true, pR_0_8, pbs, pA_129 hp, (hC.2.2.2.2 p hp).1, show (0 : Int32) = nI 0 from rfl, bIn, pz_xb (show 0 ≤ 3 from by decide), pz_xb (show 3 ≤ 3 from by decide)]
        cases k p <;> rfl
  by_cases e0 : pz_cmp k x y = 0
  · have e9 := e0
    unfold pz_cmp at e9
    cases e : pn_at 2 x with
    | none => rw [e] at e9; cases e9
    | some p =>
      obtain ⟨hp, hx⟩ := pn_at_some (by decide) e
      subst hx
      simp only [e] at e9
      cases e2 : pn_at 4 y with
      | none => simp [e2] at e9
      | some q =>
        obtain ⟨hq, hy⟩ := pn_at_some (by omega) e2
        subst hy
        have ek : k p = true := by
          cases h : k p
          · simp [e2, h] at e9
          · rfl
        obtain ⟨Q, hQ⟩ : ∃ Q, Q = P p := ⟨_, rfl⟩
        have w2 : pa_wf Q := by rw [hQ]; exact hA.2.2.2.2.2.2.2 p hp ek
        have hRQ : ph_rep I (107 + 11 * p) Q := by rw [hQ]; exact (hC.2.2.2.2 p hp).2 ek
        have hh := hp_pi hp
        have halA : ∀ o, o < 40 → pa_al A o = true → A o 0 ≠ 0 := fun o _ h => by simpa [pa_al] using h
        have halQ : ∀ o, o < 40 → pa_al Q o = true → Q o 0 ≠ 0 := fun o _ h => by simpa [pa_al] using h
        obtain ⟨vq, hvq⟩ : ∃ vq : Int32, vq = if q = 0 then nI (pa_nin A Q) else if q = 1 then nI (pa_nin Q A) else if q = 2 then nI (pa_chg A Q) else nI (fb_sm (fun o => if pa_al A o then pa_so A o else 0) 40) - nI (fb_sm (fun o => if pa_al Q o then pa_so Q o else 0) 40) := ⟨_, rfl⟩
        refine opK_ask vq ⟨I, L, ?_, hC, fun _ _ _ => ⟨rfl, rfl⟩⟩ ?_ hA hB
        · show f_L_compare 0 (nI p) (nI q) 148 (pm I L r) = _
          unfold f_L_compare
          refine xc_in ?_
          unfold f_X8_compare f_X8_compare_b26
          simp (disch := decide) only [x8_isPicture, e, pbs, show (3 : Int32) = nI 3 from rfl, x8_problemOf]
          rw [pz_xb (pz_of_le _ _ _)]
          unfold pz_of
          simp (disch := omega) only [Option.isSome_some, show pn_at (3 + 1) (nI q) = some q from e2, if_true, pR_0_8, pbs, pA_129 hp, (hC.2.2.2.2 p hp).1, ek, plit, bIn, Bool.true_eq_false, if_false, pz_xb (show 0 ≤ 3 from by decide), pR_0_7, pA_106 hp, pn_eq, pR_0_0, pO_h hp_1, pO_h hh, x4_notIn hp_1 hh hC.1 hRQ w w2, x4_notIn hh hp_1 hRQ hC.1 w2 w, x4_changed hp_1 hh hC.1 hRQ w w2, x4_allObjects hp_1 hC.1 w, x4_allObjects hh hRQ w2, x4_sizeOfAll hp_1 hC.1 (pa_al A) halA, x4_sizeOfAll hh hRQ (pa_al Q) halQ]
          rw [hvq]
          by_cases q0 : q = 0
          · rw [if_pos q0, if_pos q0]
          · rw [if_neg q0, if_neg q0]
            by_cases q1 : q = 1
            · rw [if_pos q1, if_pos q1]
            · rw [if_neg q1, if_neg q1]
              by_cases q2 : q = 2
              · rw [if_pos q2, if_pos q2]
              · rw [if_neg q2, if_neg q2]
        · intro J K r' hJ
          have hN := mS_1 hJ
          obtain ⟨m1, m2⟩ := hJ.2.2.2.2 p hp
          obtain ⟨m3, m4⟩ := m2 ek
          rw [← hQ] at m3 m4
          obtain ⟨J0, hJ0⟩ : ∃ J0, J0 = up2 J 130 4 (nI 0) := ⟨_, rfl⟩
          rw [← hJ0] at hN
          have hf : ∀ a, a ≠ 130 → J0 a = J a := fun a ha => by rw [hJ0]; exact up2_a ha
          have hser : ∀ o, o < 40 → J0 135 (520 * p + 13 * o) = nI (Q o 0) := fun o ho => by
            have := (m4 o ho).1 0 (by decide)
            rw [Nat.add_zero] at this
            rw [hf 135 (by decide), this]
            congr 1
            split
            · next h => exact h.symm
            · rfl
          have hs30 : ∀ o, o < 40 → Q o 0 < 2 ^ 31 := fun o ho => by
            have := pa_s0 w2 ho
            omega
          have hcell : ∀ z, z < 40 → Q z 0 ≠ 0 → (∀ j, j < 5 → J0 135 (520 * p + 13 * z + j) = nI (Q z j)) ∧ ∀ s, s < 8 → J0 135 (520 * p + 13 * z + 5 + s) = nI (pa_sr Q z s) := fun z hz hza => by
            refine ⟨fun j hj => ?_, fun s hs => ?_⟩
            · rw [hf 135 (by decide), (m4 z hz).1 j hj, if_neg hza]
            · rw [hf 135 (by decide), (m4 z hz).2 s hs, if_neg hza]
          refine ⟨J0, K, ?_, by rw [hJ0, up2_eq], by rw [hJ0]; exact mK_rf, by rw [hJ0]; exact mO_rf⟩
          show f_X9_compare 130 (nI p) (nI q) (pm J K r') = _
          rw [hR J K r' hJ, e0]
          unfold f_X9_compare_b39
          simp only [plit, pO_130, pbs, r9_rf (show 0 ≤ 100 from by decide), bIn, ne_eq, not_true, decide_false, if_true, ← hJ0]
          have hl := pm_seq (fun n (a : Nat × Nat × Nat × Nat × Nat) i => f_X9_compare_b64 n 130 (nI p) (nI q) (nI a.1) (nI a.2.1) (nI a.2.2.1) (nI a.2.2.2.1) (nI a.2.2.2.2) (nI i) (pm J0 K r')) (fun i => (fb_ct (fun o => pa_al A o && decide (pa_ws Q (A o 0) = 0)) i, fb_ct (fun o => pa_al A o && decide (pa_ws Q (A o 0) ≠ 0)) i, fb_ct (fun o => pa_al A o && decide (pa_ws Q (A o 0) ≠ 0) && pa_df A o Q (pa_ws Q (A o 0) - 1)) i, fb_sm (fun o => if pa_al A o then pa_so A o else 0) i, fb_ct (pa_al Q) i)) 40 (out := some (vq, pm J0 K r')) (by
            intro n i hi
            have hQi := hs30 i hi
            have hthere : fb_ct (pa_al Q) (i + 1) = fb_ct (pa_al Q) i + (if Q i 0 = 0 then 0 else 1) := by
              rw [fb_ct_succ]
              by_cases ez : Q i 0 = 0 <;> simp [pa_al, ez]
            have h97 : ∀ c : Nat, f_X9_compare_b97 (f_X9_compare_b64 n) 130 (nI p) (nI q) (nI (fb_ct (fun o => pa_al A o && decide (pa_ws Q (A o 0) = 0)) i)) (nI (fb_ct (fun o => pa_al A o && decide (pa_ws Q (A o 0) ≠ 0)) i)) (nI (fb_ct (fun o => pa_al A o && decide (pa_ws Q (A o 0) ≠ 0) && pa_df A o Q (pa_ws Q (A o 0) - 1)) i)) (nI (fb_sm (fun o => if pa_al A o then pa_so A o else 0) i)) (nI i) (nI (fb_ct (pa_al Q) i)) (nI c) (pm J0 K r') = f_X9_compare_b64 n 130 (nI p) (nI q) (nI (fb_ct (fun o => pa_al A o && decide (pa_ws Q (A o 0) = 0)) (i + 1))) (nI (fb_ct (fun o => pa_al A o && decide (pa_ws Q (A o 0) ≠ 0)) (i + 1))) (nI (fb_ct (fun o => pa_al A o && decide (pa_ws Q (A o 0) ≠ 0) && pa_df A o Q (pa_ws Q (A o 0) - 1)) (i + 1))) (nI (fb_sm (fun o => if pa_al A o then pa_so A o else 0) (i + 1))) (nI (fb_ct (pa_al Q) i + c)) (nI (i + 1)) (pm J0 K r') := by
              intro c
              rw [fb_ct_succ (fun o => pa_al A o && decide (pa_ws Q (A o 0) = 0)), fb_ct_succ (fun o => pa_al A o && decide (pa_ws Q (A o 0) ≠ 0)), fb_ct_succ (fun o => pa_al A o && decide (pa_ws Q (A o 0) ≠ 0) && pa_df A o Q (pa_ws Q (A o 0) - 1)), fb_sm_succ]
              generalize fb_ct (fun o => pa_al A o && decide (pa_ws Q (A o 0) = 0)) i = s1
              generalize fb_ct (fun o => pa_al A o && decide (pa_ws Q (A o 0) ≠ 0)) i = s2
              generalize fb_ct (fun o => pa_al A o && decide (pa_ws Q (A o 0) ≠ 0) && pa_df A o Q (pa_ws Q (A o 0) - 1)) i = s3
              generalize fb_sm (fun o => if pa_al A o then pa_so A o else 0) i = s4
              unfold f_X9_compare_b97
              simp only [plit, pO_130, r9_isObj hN w hi, pbs, bIn]
              by_cases ha : A i 0 = 0
              · have e1 : pa_al A i = false := by simp [pa_al, ha]
                simp only [e1, if_true, Bool.false_and, Bool.false_eq_true, if_false, Nat.add_zero, f_X9_compare_b196, plit, nI_add]
              · have e1 : pa_al A i = true := by simp [pa_al, ha]
                have h30 := pa_s0 w hi
                have c0 := (hN.2.2.2 i hi).1 0 (by decide)
                have hws : pa_ws Q (A i 0) ≤ 40 := pf1_le _ _
                have hin := r9_inPicture (I := J0) (L := K) (r := r') (Q := Q) hp ha (show A i 0 < 2 ^ 31 from by omega) hser hs30
                simp (disch := omega) only [e1, Bool.true_eq_false, if_false, pR_130_0, pbs, r9_at, nI_add, pA_131, c0, hin]
                cases ew : pa_ws Q (A i 0) with
                | zero =>
                  simp only [if_true, f_X9_compare_b140, f_X9_compare_b155, f_X9_compare_b181, f_X9_compare_b182, f_X9_compare_b196, plit, pO_130, r9_sizeOf hN w hi ha, pbs, nI_add, Bool.true_and, decide_true, ne_eq, not_true, decide_false, Bool.false_eq_true, if_false, Nat.add_zero, Bool.false_and]
                | succ z =>
                  obtain ⟨z1, z2, -⟩ := pa_ws_al w2 ha ew
                  obtain ⟨z5, z8⟩ := hcell z z1 z2
                  have hch := r9_hasChanged (L := K) (r := r') hN w w2 hp hi ha z1 z2 z5 z8
                  have hne : ¬ z + 1 = 0 := by omega
                  have hne2 : (nI (520 * p + 13 * z) = -nI 1) = False := nI_m1 (by omega)
                  simp only [hne, if_false, Nat.add_sub_cancel, hne2, f_X9_compare_b140, f_X9_compare_b155, plit, pO_130, hch, pbs, bIn]
                  cases pa_df A i Q z
                  · simp only [hne, if_true, f_X9_compare_b181, f_X9_compare_b182, f_X9_compare_b196, plit, pO_130, r9_sizeOf hN w hi ha, pbs, nI_add, Bool.true_and, decide_false, Bool.false_eq_true, if_false, Nat.add_zero, ne_eq, not_false_eq_true, decide_true, Bool.and_false]
                  · simp only [hne, Bool.true_eq_false, if_false, f_X9_compare_b182, f_X9_compare_b196, plit, pO_130, r9_sizeOf hN w hi ha, pbs, nI_add, Bool.true_and, decide_false, Bool.false_eq_true, Nat.add_zero, ne_eq, not_false_eq_true, decide_true, Bool.and_self, if_true]
            rw [hthere]
            simp (disch := omega) only [f_X9_compare_b64, plit, pn_le, pR_130_7, pbs, pk_mul, nI_add, pA_135, hser i hi, pn_eq]
            rw [if_neg (show ¬ 40 ≤ i from by omega)]
            by_cases ez : Q i 0 = 0
            · rw [if_pos ez, if_pos ez, h97 0]
            · rw [if_neg ez, if_neg ez, h97 1]) (by
            intro n
            have hnin := pa_nin_eq w w2
            have hsub : nI (fb_ct (pa_al Q) 40) - nI (fb_ct (fun o => pa_al A o && decide (pa_ws Q (A o 0) ≠ 0)) 40) = nI (pa_nin Q A) := by
              rw [nI_dif0 (by omega)]
              congr 1
              omega
            simp (disch := omega) only [f_X9_compare_b64, plit, pn_le, Nat.le_refl, if_true, pn_eq, hsub, pR_130_9, pbs, pA_137, hf 137 (by decide), m3]
            rw [hvq]
            by_cases q0 : q = 0
            · rw [if_pos q0, if_pos q0]
              rfl
            · rw [if_neg q0, if_neg q0]
              by_cases q1 : q = 1
              · rw [if_pos q1, if_pos q1]
              · rw [if_neg q1, if_neg q1]
                by_cases q2 : q = 2
                · rw [if_pos q2, if_pos q2]
                  rfl
                · rw [if_neg q2, if_neg q2]) hb_FU (by decide)
          exact hl
  · obtain ⟨Z, hX⟩ := hXr
    rw [if_neg e0] at hX
    refine opK_rf (nI 0) (c := pz_cmp k x y) hle e0 ?_ ?_ hC hA hB
    · show f_L_compare 0 x y 148 (pm I L r) = _
      unfold f_L_compare
      rw [xc_ex hX]
      generalize pz_cmp k x y = m at e0 hle
      match m, e0, hle with
      | 1, _, _ => rfl
      | 2, _, _ => rfl
      | 3, _, _ => rfl
    · intro J K r' hJ
      show f_X9_compare 130 x y (pm J K r') = _
      rw [hR J K r' hJ]
      unfold f_X9_compare_b39
      simp only [plit, pO_130, pbs, r9_rf (show pz_cmp k x y ≤ 100 from Nat.le_trans hle (by decide)), bIn]
      rw [if_neg (by simp [e0])]
def pz_gth (k : Nat → Bool) (x y : Int32) : Nat := match pn_at 2 x with
  | none => 1
  | some p => if (pn_at 12 y).isSome then (if k p = true then 0 else 2) else 1
set_option maxRecDepth 8192 in
theorem ok_growth (x y : Int32) (hC : cS I L r A n H t T P k B) (hA : aS A n H t T P k B) (hB : B + 1000 < 2 ^ 29) : opK (fun σ => f_L_growth 0 x y 148 σ) (fun σ => f_X9_growth 130 x y σ) Int32.toInt64 I L r A n H t T P k B := by
  have w := hA.2.1
  have hR : ∀ (J : Nat → Nat → Int32) (K : Nat → Nat → Int64) (r' : Nat → Option Nat), mS J A n H t T P k → f_X9_growth 130 x y (pm J K r') = f_X9_growth_b36 130 x y 130 (nI (pz_gth k x y)) (pm J K r') := by
    intro J K r' hJ
    unfold f_X9_growth f_X9_growth_b18 pz_gth
    simp only [plit, r9_isPicture, pbs, bIn, r9_in (show 11 + 1 < 2 ^ 31 from by decide)]
    cases e : pn_at 2 x with
    | none => rfl
    | some p =>
      obtain ⟨hp, hx⟩ := pn_at_some (by decide) e
      subst hx
      simp only [Option.isSome_some, Bool.true_eq_false, if_false]
      cases (pn_at (11 + 1) y).isSome
      · rfl
      · simp only [Bool.true_eq_false, if_false, pR_130_8, pbs, pA_136 hp, (hJ.2.2.2.2 p hp).1, bIn, if_true]
        cases k p <;> rfl
  have hn10 : bI true = nI 1 := rfl
  by_cases e1 : pz_gth k x y = 1
  · have hX : f_X8_growth 0 x y (pm I L r) = some (.inl hb_e1, pm I L r) := by
      unfold pz_gth at e1
      unfold f_X8_growth f_X8_growth_b21 f_X8_growth_b22
      simp only [x8_isPicture, pbs, plit, bIn, pn_rng (show 11 + 1 < 2 ^ 31 from by decide)]
      rw [← bI_f, ← hn10, pz_xu, pz_xu]
      cases e : pn_at 2 x with
      | none => rfl
      | some p =>
        simp only [e] at e1
        cases e2 : (pn_at (11 + 1) y).isSome
        · rfl
        · exfalso
          have e2 : (pn_at 12 y).isSome = true := e2
          rw [if_pos e2] at e1
          cases h : k p <;> simp [h] at e1
    refine opK_rf (nI 0) (c := 1) (by decide) (by decide) ?_ ?_ hC hA hB
    · show f_L_growth 0 x y 148 (pm I L r) = _
      unfold f_L_growth
      rw [xc_ex hX]
      exact if_pos rfl
    · intro J K r' hJ
      show f_X9_growth 130 x y (pm J K r') = _
      rw [hR J K r' hJ, e1]
      unfold f_X9_growth_b36
      simp only [plit, pO_130, pbs, r9_rf (show 1 ≤ 100 from by decide), bIn]
      rfl
  · have e9 := e1
    unfold pz_gth at e9
    cases e : pn_at 2 x with
    | none => simp [e] at e9
    | some p =>
      obtain ⟨hp, hx⟩ := pn_at_some (by decide) e
      subst hx
      simp only [e] at e9
      cases e2 : pn_at 12 y with
      | none => simp [e2] at e9
      | some g =>
        obtain ⟨hg, hy⟩ := pn_at_some (by omega) e2
        subst hy
        have hX : f_X8_growth 0 (nI p) (nI g) (pm I L r) = if k p = true then ((f_X4_membersOf 1 (nI g) (bI false) (pm I L r)).bind fun r3 => (f_J13_bitCount_95d88 r3.1 r3.2).bind fun r4 => (hb_getR r4.2 0 8 7).bind fun r5 => (hb_aald r4.2 r5 (nI p)).bind fun r6 => (hb_on r4.2 r6 4 (f_X4_membersOf r6 (nI g) (bI false) r4.2)).bind fun r7 => (f_J13_bitCount_95d88 r7.1 r7.2).bind fun r8 => some (.inr (r4.1 - r8.1), r8.2)) else some (.inl hb_e3, pm I L r) := by
          unfold f_X8_growth f_X8_growth_b21 f_X8_growth_b22 f_X8_growth_b39
          simp only [x8_isPicture, pbs, plit, bIn, pn_rng (show 11 + 1 < 2 ^ 31 from by decide), e, show pn_at (11 + 1) (nI g) = some g from e2, Option.isSome_some, Bool.true_eq_false, if_false, if_true, pz_xb (show 0 ≤ 3 from by decide), pz_xb (show 3 ≤ 3 from by decide), show ¬ (3 : Nat) = 0 from by decide]
          rw [← hn10, pz_xu, if_pos rfl]
          simp only [pR_0_8, pbs, pA_129 hp, (hC.2.2.2.2 p hp).1, bIn, pR_0_0, pO_h hp_1]
          cases k p <;> rfl
        cases ek : k p
        · have e0 : pz_gth k (nI p) (nI g) = 2 := by
            unfold pz_gth
            simp only [e]
            rw [e2]
            simp [ek]
          rw [ek, if_neg (by decide)] at hX
          refine opK_rf (nI 0) (c := 2) (by decide) (by decide) ?_ ?_ hC hA hB
          · show f_L_growth 0 (nI p) (nI g) 148 (pm I L r) = _
            unfold f_L_growth
            rw [xc_ex hX]
            exact (if_neg pe_31).trans (if_pos rfl)
          · intro J K r' hJ
            show f_X9_growth 130 (nI p) (nI g) (pm J K r') = _
            rw [hR J K r' hJ, e0]
            unfold f_X9_growth_b36
            simp only [plit, pO_130, pbs, r9_rf (show 2 ≤ 100 from by decide), bIn]
            rfl
        · have e0 : pz_gth k (nI p) (nI g) = 0 := by
            unfold pz_gth
            simp only [e]
            rw [e2]
            simp [ek]
          rw [ek, if_pos rfl] at hX
          obtain ⟨Q, hQ⟩ : ∃ Q, Q = P p := ⟨_, rfl⟩
          have w2 : pa_wf Q := by rw [hQ]; exact hA.2.2.2.2.2.2.2 p hp ek
          have hRQ : ph_rep I (107 + 11 * p) Q := by rw [hQ]; exact (hC.2.2.2.2 p hp).2 ek
          have hh := hp_pi hp
          have hmA : f_X4_membersOf 1 (nI g) (bI false) (pm I L r) = some (hb_mk (pa_grp A g false), pm I L r) := x4_membersOf hp_1 hC.1 w hg false
          have hmQ : f_X4_membersOf (107 + 11 * p) (nI g) (bI false) (pm I L r) = some (hb_mk (pa_grp Q g false), pm I L r) := x4_membersOf hh hRQ w2 hg false
          refine opK_ask (nI (fb_ct (pa_grp A g false) 40) - nI (fb_ct (pa_grp Q g false) 40)) ⟨I, L, ?_, hC, fun _ _ _ => ⟨rfl, rfl⟩⟩ ?_ hA hB
          · show f_L_growth 0 (nI p) (nI g) 148 (pm I L r) = _
            unfold f_L_growth
            refine xc_in ?_
            rw [hX]
            simp only [hmA, pbs, pc_bitCount, pR_0_7, pA_106 hp, pO_h hh, hmQ]
          · intro J K r' hJ
            have hN := mS_1 hJ
            obtain ⟨m1, m2⟩ := hJ.2.2.2.2 p hp
            obtain ⟨m3, m4⟩ := m2 ek
            rw [← hQ] at m3 m4
            refine ⟨up2 J 130 4 (nI 0), K, ?_, up2_eq, mK_rf, mO_rf⟩
            show f_X9_growth 130 (nI p) (nI g) (pm J K r') = _
            rw [hR J K r' hJ, e0]
            unfold f_X9_growth_b36
            simp only [plit, pO_130, pbs, r9_rf (show 0 ≤ 100 from by decide), bIn, ne_eq, not_true, decide_false, if_true]
            have hl := pm_seq (fun n (a : Int32) i => f_X9_growth_b49 n 130 (nI p) (nI g) a (nI i) (pm (up2 J 130 4 (nI 0)) K r')) (fun i => nI (fb_ct (pa_grp A g false) i) - nI (fb_ct (pa_grp Q g false) i)) 40 (out := some (nI (fb_ct (pa_grp A g false) 40) - nI (fb_ct (pa_grp Q g false) 40), pm (up2 J 130 4 (nI 0)) K r')) (by
              intro n i hi
              have q0 := (m4 i hi).1 0 (by decide)
              have q1 := (m4 i hi).1 1 (by decide)
              rw [Nat.add_zero] at q0
              have hq30 := pa_s0 w2 hi
              have hstep := nI_dif (fb_ct (pa_grp A g false) i) (if pa_grp A g false i then 1 else 0) (fb_ct (pa_grp Q g false) i) (if pa_grp Q g false i then 1 else 0)
              rw [← fb_ct_succ, ← fb_ct_succ] at hstep
              have h87 : ∀ c : Nat, f_X9_growth_b87 (f_X9_growth_b49 n) 130 (nI p) (nI g) (nI i) (nI (fb_ct (pa_grp A g false) i) - nI (fb_ct (pa_grp Q g false) i)) (nI c) (pm (up2 J 130 4 (nI 0)) K r') = f_X9_growth_b49 n 130 (nI p) (nI g) (nI (fb_ct (pa_grp A g false) i) - nI (fb_ct (pa_grp Q g false) i) + nI c - nI (if pa_grp Q g false i then 1 else 0)) (nI (i + 1)) (pm (up2 J 130 4 (nI 0)) K r') := by
                intro c
                simp (disch := omega) only [f_X9_growth_b87, f_X9_growth_b135, f_X9_growth_b136, plit, pR_130_7, pbs, pk_mul, nI_add, pA_135, up2_ne, q0, q1]
                by_cases ez : Q i 0 = 0
                · have : pa_grp Q g false i = false := by simp [pa_grp, pa_al, ez]
                  rw [this, if_pos ez, if_pos rfl]
                  rfl
                · have hgi := pa_gr w2 hi ez
                  rw [if_neg ez, if_neg ez]
                  simp (disch := omega) only [pn_eq, ez, if_false]
                  by_cases eg : Q i 1 = g
                  · have : pa_grp Q g false i = true := by simp [pa_grp, pa_al, ez, eg]
                    rw [this, if_pos eg]
                    rfl
                  · have : pa_grp Q g false i = false := by simp [pa_grp, eg]
                    rw [this, if_neg eg]
                    rfl
              have c1 := (hN.2.2.2 i hi).1 1 (by decide)
              simp (disch := omega) only [f_X9_growth_b49, f_X9_growth_b86, plit, pn_le, pO_130, r9_isObj hN w hi, pbs, bIn, pR_130_0, r9_at, nI_add, pA_131, c1, h87]
              rw [if_neg (show ¬ 40 ≤ i from by omega), ← hstep]
              by_cases ha : A i 0 = 0
              · have : pa_grp A g false i = false := by simp [pa_grp, pa_al, ha]
                rw [this, if_pos (by simp [pa_al, ha])]
                rfl
              · have hgi := pa_gr w hi ha
                rw [if_neg (by simp [pa_al, ha])]
                simp (disch := omega) only [pn_eq]
                by_cases eg : A i 1 = g
                · have : pa_grp A g false i = true := by simp [pa_grp, pa_al, ha, eg]
                  rw [this, if_pos eg]
                  rfl
                · have : pa_grp A g false i = false := by simp [pa_grp, eg]
                  rw [this, if_neg eg]
                  rfl) (by
              intro n
              rw [f_X9_growth_b49, if_pos (by decide)]) hb_FU (by decide)
            have h00 : nI (fb_ct (pa_grp A g false) 0) - nI (fb_ct (pa_grp Q g false) 0) = nI 0 := (show nI 0 - nI 0 = nI 0 from by decide)
            rw [h00] at hl
            exact hl
end CMQ
