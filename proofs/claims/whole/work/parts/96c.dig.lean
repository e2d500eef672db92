/-! the digest -/
def mx (h v : Int64) : Int64 := (31 : Int64) * h + v
def dg_c (A : Nat → Nat → Nat) (c : Nat) (h : Int64) : Int64 := mx (mx (mx h (pa_cf A c 0).toInt64) (pa_cf A c 1).toInt64) (pa_cf A c 2).toInt64
def dg_of (A : Nat → Nat → Nat) (o q : Nat) (h : Int64) : Int64 := mx h (nI (pa_of A o q)).toInt64
def dg_sl (A : Nat → Nat → Nat) (o s : Nat) (h : Int64) : Int64 := mx h (mI (A o (5 + s))).toInt64
noncomputable def dg_o (A : Nat → Nat → Nat) (o : Nat) (h : Int64) : Int64 := mx (mx (mx (mx (pm_fold (dg_sl A o) (A o 2) (pm_fold (dg_of A o) 6 (mx h (nI o).toInt64))) (mI (px_df A o)).toInt64) (mI (px_im A o)).toInt64) (nI (pd_rt A o)).toInt64) (mI (ld_c (ld_n A 40) o)).toInt64
noncomputable def dg_a (A : Nat → Nat → Nat) (o : Nat) (h : Int64) : Int64 := if pa_al A o = true then dg_o A o h else h
noncomputable def dg (A : Nat → Nat → Nat) (t n : Nat) : Int64 := mx (mx (pm_fold (dg_a A) 40 (pm_fold (dg_c A) (A 40 0) (mx 1759 (nI (A 40 0)).toInt64))) (nI t).toInt64) (nI n).toInt64
section DIG
variable {I J : Nat → Nat → Int32} {L K : Nat → Nat → Int64} {r : Nat → Option Nat} {A : Nat → Nat → Nat} {n : Nat} {H : Nat → Nat → Nat → Nat} {t : Nat} {T : Nat → Nat} {P : Nat → Nat → Nat → Nat} {k : Nat → Bool} {B : Nat}
set_option maxRecDepth 8192 in
theorem x8_mixed {h v : Int64} {σ : hb_M} : f_X8_mixed h v σ = some (mx h v, σ) := rfl
set_option maxRecDepth 8192 in
theorem x8_mixObj (hR : ph_rep I 1 A) (w : pa_wf A) (X : px_an I L A) {o : Nat} (ho : o < 40) (ha : A o 0 ≠ 0) (h : Int64) : f_X8_mixedWithObject 0 h (nI o) (pm I L r) = some (dg_o A o h, pm I L r) := by
  have h8 := pa_sl8 w ho ha
  have h7 : I 8 o = nI (A o 2) := ((hR.2.2.2 o ho).2 ha).2.2.2.1
  have hdf : I 15 o = mI (px_df A o) := (X.2.1.2.2 o ho).1
  obtain ⟨-, u2, u3, -, -, -, u7⟩ := X.2.2.2.2 o ho
  have u2 : I 23 o = mI (px_im A o) := u2
  have hsl : ∀ h, f_X8_mixedWithObject_b44 hb_FU 0 (nI o) h (nI 0) (pm I L r) = some (mx (mx (mx (mx (pm_fold (dg_sl A o) (A o 2) h) (mI (px_df A o)).toInt64) (mI (px_im A o)).toInt64) (nI (pd_rt A o)).toInt64) (mI (ld_c (ld_n A 40) o)).toInt64, pm I L r) := by
    intro h
    exact pm_loop (fun n a i => f_X8_mixedWithObject_b44 n 0 (nI o) a (nI i) (pm I L r)) (dg_sl A o) (A o 2) (out := fun a => some (mx (mx (mx (mx a (mI (px_df A o)).toInt64) (mI (px_im A o)).toInt64) (nI (pd_rt A o)).toInt64) (mI (ld_c (ld_n A 40) o)).toInt64, pm I L r)) (by
      intro n a i hi
      simp (disch := omega) only [f_X8_mixedWithObject_b44, plit, pR_0_0, pbs, pR_h_7 hp_1, pA_h_7 hp_1, show 1 + 7 = 8 from rfl, h7, pn_le, pO_h hp_1, x4_target hp_1 hR w ho ha (show i < 8 from by omega), x8_mixed, nI_add]
      rw [if_neg (show ¬ A o 2 ≤ i from by omega)]
      rfl) (by
      intro n a
      simp (disch := omega) only [f_X8_mixedWithObject_b44, plit, pR_0_0, pR_0_1, pbs, pR_h_7 hp_1, pA_h_7 hp_1, show 1 + 7 = 8 from rfl, h7, pn_le, Nat.le_refl, if_true, pR_12_1, pR_13_1, pA_15, hdf, x8_mixed, pR_12_5, pA_23, u2, pR_12_6, pA_24, u3, pR_12_10, pA_28, u7]) h hb_FU (Nat.lt_of_le_of_lt h8 (by decide))
  unfold f_X8_mixedWithObject
  simp only [x8_mixed, pbs, plit]
  have hl := pm_loop (fun n a i => f_X8_mixedWithObject_b11 n 0 (nI o) a (nI i) (pm I L r)) (dg_of A o) 6 (out := fun a => f_X8_mixedWithObject_b44 hb_FU 0 (nI o) a (nI 0) (pm I L r)) (by
    intro n a i hi
    simp (disch := omega) only [f_X8_mixedWithObject_b11, plit, pn_lt, pR_0_0, pbs, pO_h hp_1, x4_objectFact hp_1 hR ho ha, x8_mixed, nI_add]
    rw [if_neg (show ¬ 5 < i from by omega)]
    rfl) (by
    intro n a
    rw [f_X8_mixedWithObject_b11, if_pos (by decide)]
    rfl) (mx h (nI o).toInt64) hb_FU (by decide)
  rw [hl, hsl]
  rfl
set_option maxRecDepth 8192 in
theorem r9_mix {v h : Int64} : f_X9_mix 130 v (pm I (up2 L 130 28 h) r) = some (pm I (up2 L 130 28 (mx h v)) r) := by
  unfold f_X9_mix
  simp only [pI_130_28, pbs, up2_eq, pP_130_28, up2_up2]
  rfl
set_option maxRecDepth 8192 in
theorem r9_objectBy (hN : pr_row (I 131) A) (w : pa_wf A) {o q : Nat} (ho : o < 40) (ha : A o 0 ≠ 0) (hq : q < 6) : f_X9_objectBy 130 (nI o) (nI q) (pm I L r) = some (nI (pa_of A o q), pm I L r) := by
  have c0 := (hN.2.2.2 o ho).1 0 (by decide)
  have c1 := (hN.2.2.2 o ho).1 1 (by decide)
  have c2 := (hN.2.2.2 o ho).1 2 (by decide)
  have c3 := (hN.2.2.2 o ho).1 3 (by decide)
  have c4 := (hN.2.2.2 o ho).1 4 (by decide)
  unfold f_X9_objectBy pa_of
  simp (disch := omega) only [pbs, pO_130, pR_130_0, pA_131, pS_131, plit, nI_add, pk_mul, pn_le, pn_lt, if_true, if_false, reduceIte, pn_eq, r9_at, c0, c1, c2, c3, c4, r9_sizeOf hN w ho ha]
  match q, hq with
  | 0, _ => rfl
  | 1, _ => rfl
  | 2, _ => rfl
  | 3, _ => rfl
  | 4, _ => rfl
  | 5, _ => rfl
set_option maxRecDepth 8192 in
theorem mR_28 {h : Int64} (hR : mR L A) : mR (up2 L 130 28 h) A := ⟨by rw [up2_nj (by decide)]; exact hR.1, fun o ho => by rw [up2_ne (by decide)]; exact hR.2 o ho⟩
set_option maxRecDepth 8192 in
theorem mL_28 {h : Int64} (hR : mL L A) : mL (up2 L 130 28 h) A := fun o ho => by rw [up2_ne (by decide)]; exact hR o ho
set_option maxRecDepth 8192 in
theorem r9_mixObj (hN : pr_row (I 131) A) (w : pa_wf A) (hR : mR L A) (hL : mL L A) (hF : ∀ o, o < 40 → I 139 o = mI (px_df A o)) {o : Nat} (ho : o < 40) (ha : A o 0 ≠ 0) (F : Nat) (h : Int64) : f_X9_digest_b110 (f_X9_digest_b88 F) hb_FU 130 (nI o) (nI 0) (pm I (up2 L 130 28 (mx h (nI o).toInt64)) r) = f_X9_digest_b88 F 130 (nI (o + 1)) (pm I (up2 L 130 28 (dg_o A o h)) r) := by
  have h8 := pa_sl8 w ho ha
  have c2 := (hN.2.2.2 o ho).1 2 (by decide)
  obtain ⟨q, q1, q2, q3, q4⟩ := ld_c_low ha
  have hsl : ∀ h, f_X9_digest_b135 (f_X9_digest_b88 F) hb_FU 130 (nI o) (nI 0) (pm I (up2 L 130 28 h) r) = f_X9_digest_b88 F 130 (nI (o + 1)) (pm I (up2 L 130 28 (mx (mx (mx (mx (pm_fold (dg_sl A o) (A o 2) h) (mI (px_df A o)).toInt64) (mI (px_im A o)).toInt64) (nI (pd_rt A o)).toInt64) (mI (ld_c (ld_n A 40) o)).toInt64)) r) := by
    intro h
    exact pm_loop (fun n (a : Int64) i => f_X9_digest_b135 (f_X9_digest_b88 F) n 130 (nI o) (nI i) (pm I (up2 L 130 28 a) r)) (dg_sl A o) (A o 2) (out := fun a => f_X9_digest_b88 F 130 (nI (o + 1)) (pm I (up2 L 130 28 (mx (mx (mx (mx a (mI (px_df A o)).toInt64) (mI (px_im A o)).toInt64) (nI (pd_rt A o)).toInt64) (mI (ld_c (ld_n A 40) o)).toInt64)) r)) (by
      intro n a i hi
      have c5 := (hN.2.2.2 o ho).2 i (by omega)
      simp (disch := omega) only [f_X9_digest_b135, pbs, pO_130, pR_130_0, pA_131, pS_131, plit, nI_add, pk_mul, pn_le, pn_lt, if_true, if_false, reduceIte, r9_at, c2, c5, r9_mix]
      rw [if_neg (show ¬ A o 2 ≤ i from by omega)]
      rfl) (by
      intro n a
      simp (disch := omega) only [f_X9_digest_b135, f_X9_digest_b218, pbs, pO_130, pR_130_0, pA_131, pS_131, plit, nI_add, pk_mul, pn_le, pn_lt, if_true, if_false, reduceIte, r9_at, c2, Nat.le_refl, pR_130_13, pA_139, hF o ho, r9_mix, r9_immediate (mR_28 hR) w ho, r9_retBy hN w (mR_28 hR) ho, r9_compOf (mL_28 hL) ho, r9_first (p := fun b => ld_n A 40 o b && ld_n A 40 b o) (show q < 40 from by omega) q3 q4, q1, mI_s]) h hb_FU (Nat.lt_of_le_of_lt h8 (by decide))
  have hl := pm_loop (fun n (a : Int64) i => f_X9_digest_b110 (f_X9_digest_b88 F) n 130 (nI o) (nI i) (pm I (up2 L 130 28 a) r)) (dg_of A o) 6 (out := fun a => f_X9_digest_b135 (f_X9_digest_b88 F) hb_FU 130 (nI o) (nI 0) (pm I (up2 L 130 28 a) r)) (by
    intro n a i hi
    simp (disch := omega) only [f_X9_digest_b110, plit, pn_le, pO_130, r9_objectBy hN w ho ha, pbs, r9_mix, nI_add]
    rw [if_neg (show ¬ 6 ≤ i from by omega)]
    rfl) (by
    intro n a
    rw [f_X9_digest_b110, if_pos (by decide)]
    rfl) (mx h (nI o).toInt64) hb_FU (by decide)
  rw [hl, hsl]
  rfl
set_option maxRecDepth 8192 in
theorem od_digest (hC : cS I L r A n H t T P k B) (hA : aS A n H t T P k B) (hB : B + 1000 < 2 ^ 29) : opD (fun σ => f_X8_digest 0 σ) (fun σ => f_X9_digest 130 σ) I L r A n H t T P k B := by
  have w := hA.2.1
  have h10 := pa_cc10 w
  obtain ⟨J, K, g1, g2, g3, g4⟩ := cS_refresh hC hA
  refine opD_ask (dg A t n) ⟨J, K, ?_, g2, fun a a1 a2 => g4 a (by omega)⟩ ?_ hA hB
  · have hn : J 29 1 = nI n := by
      obtain ⟨π, hπ⟩ := g2.2.2.1
      exact hπ.2.1
    have hobj : ∀ h, f_X8_digest_b74 hb_FU 0 h (nI 0) (pm J K r) = some (mx (mx (pm_fold (dg_a A) 40 h) (nI t).toInt64) (nI n).toInt64, pm J K r) := by
      intro h
      exact pm_loop (fun n a i => f_X8_digest_b74 n 0 a (nI i) (pm J K r)) (dg_a A) 40 (out := fun a => some (mx (mx a (nI t).toInt64) (nI n).toInt64, pm J K r)) (by
        intro m a i hi
        simp (disch := omega) only [f_X8_digest_b74, f_X8_digest_b98, plit, pn_le, pR_0_0, pbs, pO_h hp_1, x4_hasObj hp_1 g2.1 w hi, bIn, nI_add]
        rw [if_neg (show ¬ 40 ≤ i from by omega)]
        unfold dg_a
        by_cases ha : A i 0 = 0
        · have e1 : pa_al A i = false := by simp [pa_al, ha]
          rw [e1]
          rfl
        · have e1 : pa_al A i = true := by simp [pa_al, ha]
          rw [e1, if_neg (by decide), if_pos rfl, pO_0, x8_mixObj g2.1 w g3 hi ha]
          rfl) (by
        intro m a
        simp (disch := omega) only [f_X8_digest_b74, plit, pn_le, Nat.le_refl, if_true, pR_0_3, pR_0_2, pbs, pI_97_1, g2.2.2.2.1.1, x8_mixed, pI_29_1, hn]) h hb_FU (by decide)
    have hcls : ∀ h, f_X8_digest_b24 hb_FU 0 h (nI 0) (pm J K r) = f_X8_digest_b74 hb_FU 0 (pm_fold (dg_c A) (A 40 0) h) (nI 0) (pm J K r) := by
      intro h
      exact pm_loop (fun n a i => f_X8_digest_b24 n 0 a (nI i) (pm J K r)) (dg_c A) (A 40 0) (out := fun a => f_X8_digest_b74 hb_FU 0 a (nI 0) (pm J K r)) (by
        intro m a i hi
        have hin : f_X8_digest_b38 (f_X8_digest_b24 m) hb_FU 0 a (nI i) (nI 0) (pm J K r) = f_X8_digest_b24 m 0 (dg_c A i a) (nI (i + 1)) (pm J K r) := by
          have hl := pm_loop (fun n (a : Int64) q => f_X8_digest_b38 (f_X8_digest_b24 m) n 0 a (nI i) (nI q) (pm J K r)) (fun q a => mx a (pa_cf A i q).toInt64) 3 (out := fun a => f_X8_digest_b24 m 0 a (nI (i + 1)) (pm J K r)) (by
            intro n a q hq
            simp (disch := omega) only [f_X8_digest_b38, plit, pn_lt, pR_0_0, pbs, pO_h hp_1, x4_classFact hp_1 g2.1 w hi (show q < 4 from by omega), x8_mixed, nI_add]
            rw [if_neg (show ¬ 2 < q from by omega)]) (by
            intro n a
            rw [f_X8_digest_b38, if_pos (by decide)]
            simp only [plit, nI_add]) a hb_FU (by decide)
          exact hl
        simp (disch := omega) only [f_X8_digest_b24, plit, pR_0_0, pbs, pI_h_0 hp_1, g2.1.1, pn_le, hin]
        rw [if_neg (show ¬ A 40 0 ≤ i from by omega)]) (by
        intro m a
        simp (disch := omega) only [f_X8_digest_b24, plit, pR_0_0, pbs, pI_h_0 hp_1, g2.1.1, pn_le, Nat.le_refl, if_true]) h hb_FU (Nat.lt_of_le_of_lt h10 (by decide))
    unfold f_X8_digest
    simp only [pR_0_1, pR_0_0, pbs, pO_12, g1, pI_h_0 hp_1, g2.1.1, x8_mixed, plit, hcls, hobj]
    rfl
  · intro J K r' hJ
    obtain ⟨K1, k1, k2, k3, k4⟩ := r9_laysRet (L := K) (r := r') (mS_1 hJ) w
    obtain ⟨J1, j1, j2, j3⟩ := r9_laysFar (L := K1) (r := r') (mS_1 hJ) w
    have hN : pr_row (J1 131) A := by
      rw [j3 131 (by decide)]
      exact mS_1 hJ
    obtain ⟨K2, l1, l2, l3⟩ := r9_leads (L := K1) (r := r') hN w
    have hR2 : mR K2 A := ⟨by rw [l3 130 (by decide)]; exact k2.1, fun o ho => by rw [l3 138 (by decide)]; exact k2.2 o ho⟩
    refine ⟨J1, up2 K2 130 28 (dg A t n), ?_, mK_tr mK_rf ⟨fun a ha => j3 a (by omega), by rw [j3 130 (by decide)], by rw [j3 130 (by decide)]⟩, fun a ha => ⟨by rw [j3 a (by omega), up2_a (by omega)], by rw [up2_a (by omega), l3 a (by omega), k3 a (by omega) (by omega)]⟩⟩
    have h3 : J1 130 3 = nI n := by
      rw [j3 130 (by decide), up2_nj (by decide)]
      exact hJ.2.1
    have h6 : J1 130 6 = nI t := by
      rw [j3 130 (by decide), up2_nj (by decide)]
      exact hJ.2.2.2.1.1
    have hobj : ∀ h, f_X9_digest_b88 hb_FU 130 (nI 0) (pm J1 (up2 K2 130 28 h) r') = some (mx (mx (pm_fold (dg_a A) 40 h) (nI t).toInt64) (nI n).toInt64, pm J1 (up2 K2 130 28 (mx (mx (pm_fold (dg_a A) 40 h) (nI t).toInt64) (nI n).toInt64)) r') := by
      intro h
      exact pm_loop (fun n (a : Int64) i => f_X9_digest_b88 n 130 (nI i) (pm J1 (up2 K2 130 28 a) r')) (dg_a A) 40 (out := fun a => some (mx (mx a (nI t).toInt64) (nI n).toInt64, pm J1 (up2 K2 130 28 (mx (mx a (nI t).toInt64) (nI n).toInt64)) r')) (by
        intro m a i hi
        simp (disch := omega) only [f_X9_digest_b88, f_X9_digest_b218, plit, pn_le, pO_130, r9_isObj hN w hi, pbs, bIn, r9_mix, nI_add]
        rw [if_neg (show ¬ 40 ≤ i from by omega)]
        unfold dg_a
        by_cases ha : A i 0 = 0
        · have e1 : pa_al A i = false := by simp [pa_al, ha]
          rw [e1]
          rfl
        · have e1 : pa_al A i = true := by simp [pa_al, ha]
          rw [e1, if_neg (by decide), if_pos rfl, r9_mixObj hN w hR2 l2 j2 hi ha]) (by
        intro m a
        simp (disch := omega) only [f_X9_digest_b88, plit, pn_le, Nat.le_refl, if_true, pI_130_6, h6, pI_130_3, h3, pbs, pO_130, r9_mix, pI_130_28, up2_eq]) h hb_FU (by decide)
    have hcls : ∀ h, f_X9_digest_b37 hb_FU 130 (nI 0) (pm J1 (up2 K2 130 28 h) r') = f_X9_digest_b88 hb_FU 130 (nI 0) (pm J1 (up2 K2 130 28 (pm_fold (dg_c A) (A 40 0) h)) r') := by
      intro h
      exact pm_loop (fun n (a : Int64) i => f_X9_digest_b37 n 130 (nI i) (pm J1 (up2 K2 130 28 a) r')) (dg_c A) (A 40 0) (out := fun a => f_X9_digest_b88 hb_FU 130 (nI 0) (pm J1 (up2 K2 130 28 a) r')) (by
        intro m a i hi
        simp (disch := omega) only [f_X9_digest_b37, pbs, pO_130, pR_130_0, pA_131, pS_131, plit, nI_add, pk_mul, pn_le, pn_lt, if_true, if_false, reduceIte, hN.1, r9_classBy hN w hi, r9_mix]
        rw [if_neg (show ¬ A 40 0 ≤ i from by omega)]
        rfl) (by
        intro m a
        simp (disch := omega) only [f_X9_digest_b37, pbs, pO_130, pR_130_0, pA_131, pS_131, plit, nI_add, pk_mul, pn_le, pn_lt, if_true, if_false, reduceIte, hN.1, Nat.le_refl]) h hb_FU (Nat.lt_of_le_of_lt h10 (by decide))
    unfold f_X9_digest
    simp (disch := omega) only [plit, pP_130_4, pbs, pO_130, k1, j1, l1, pP_130_28, pR_130_0, pA_131, hN.1, r9_mix, hcls, hobj]
    rfl
end DIG
