/-! the quotient's bits: both sides -/
section FPE
variable {I J : Nat → Nat → Int32} {L K : Nat → Nat → Int64} {r : Nat → Option Nat} {A : Nat → Nat → Nat} {n : Nat} {H : Nat → Nat → Nat → Nat} {t : Nat} {T : Nat → Nat} {P : Nat → Nat → Nat → Nat} {k : Nat → Bool} {B : Nat}
set_option maxRecDepth 8192 in
theorem fp_nn (f : FP.Core.Fmt) (p q : Nat) (e : Int) : FP.Core.roundRatio f false p q e ≠ .nan := by
  unfold FP.Core.roundRatio FP.Core.roundAt FP.Core.settle FP.Core.bound
  split
  · intro h; cases h
  · split <;> split <;> (intro h; cases h)
set_option maxRecDepth 8192 in
theorem fp_self {d : FP.Core.Datum} (h : d ≠ .nan) : FP.Core.order d d = some .eq := by
  cases d with
  | nan => exact absurd rfl h
  | inf s => show some (compareOfLessAndEq _ _) = some .eq; simp [compareOfLessAndEq]
  | fin s c q => show some (compareOfLessAndEq _ _) = some .eq; simp [compareOfLessAndEq]
noncomputable def fp_D (p q : Nat) : Nat := FP.Core.encode FP.Core.b64 (FP.Core.roundRatio FP.Core.b64 false p q 0)
noncomputable def fp_F (p q : Nat) : Nat := FP.Core.encode FP.Core.b32 (FP.Core.roundRatio FP.Core.b32 false p q 0)
set_option maxRecDepth 8192 in
theorem fp_rr0 (f : FP.Core.Fmt) (s : Bool) (q : Nat) (e : Int) : FP.Core.roundRatio f s 0 q e = .fin s 0 f.qmin := by
  unfold FP.Core.roundRatio
  rw [if_pos rfl]
set_option maxRecDepth 8192 in
theorem fp_D0 (q : Nat) : fp_D 0 q = 0 := by
  unfold fp_D
  rw [fp_rr0]
  decide
set_option maxRecDepth 8192 in
theorem fp_F0 (q : Nat) : fp_F 0 q = 0 := by
  unfold fp_F
  rw [fp_rr0]
  decide
set_option maxRecDepth 8192 in
theorem q_top {X Q m e : Nat} (hQ : 0 < Q) (h : X < Q) : e * 2 ^ m + X * 2 ^ m / Q + q_up (X * 2 ^ m / Q) (X * 2 ^ m % Q) Q ≤ (e + 1) * 2 ^ m := by
  have h1 : X * 2 ^ m / Q < 2 ^ m := Nat.div_lt_of_lt_mul (Nat.mul_lt_mul_of_pos_right h (Nat.two_pow_pos m))
  have h2 : q_up (X * 2 ^ m / Q) (X * 2 ^ m % Q) Q ≤ 1 := by unfold q_up; split <;> omega
  rw [Nat.add_mul]
  omega
set_option maxRecDepth 8192 in
theorem fp_quot0 {f : FP.Core.Fmt} (hf : FP.Core.Good f) {q : Nat} (hq0 : 0 < q) (hq : q < 2 ^ 20) (h20 : 20 ≤ f.p) (hE : 100 ≤ f.emax) : FP.Core.quotient f (FP.Core.round f (FP.Core.ofInt ((0 : Nat) : Int))) (FP.Core.round f (FP.Core.ofInt (q : Int))) = FP.Core.roundRatio f false 0 q 0 := by
  obtain ⟨k, h2⟩ := fp_whole hf hq0 hq h20 hE
  have hqk : 0 < q * 2 ^ k := Nat.mul_pos hq0 (Nat.two_pow_pos k)
  have h1 : FP.Core.round f (FP.Core.ofInt ((0 : Nat) : Int)) = .fin false 0 f.qmin := by
    show FP.Core.roundRatio f (decide (((0 : Nat) : Int) < 0)) 0 1 0 = _
    rw [fp_rr0]
    rfl
  rw [h1, h2]
  show (if q * 2 ^ k = 0 then _ else FP.Core.roundRatio f (false != false) 0 (q * 2 ^ k) _) = _
  rw [if_neg (by omega), fp_rr0, fp_rr0]
  rfl
set_option maxRecDepth 8192 in
theorem fp_ddiv1 {p q : Nat} (hp : p < 2 ^ 20) (hq0 : 0 < q) (hq : q < 2 ^ 20) : FP.ddiv (FP.l2d (lN p)) (FP.i2d (nI q)) = FP.Core.of64 (FP.Core.roundRatio FP.Core.b64 false p q 0) := by
  by_cases hp0 : p = 0
  · subst hp0
    have h1 : (lN 0).toInt = ((0 : Nat) : Int) := by decide
    have h2 : (nI q).toInt = (q : Int) := nI_toInt (by omega)
    have hd : FP.ddiv (FP.l2d (lN 0)) (FP.i2d (nI q)) = FP.Core.of64 (FP.Core.quotient FP.Core.b64 (FP.Core.val64 (FP.Core.l2d (lN 0))) (FP.Core.val64 (FP.Core.i2d (nI q)))) := rfl
    rw [hd, FP.Core.val64_l2d, FP.Core.val64_i2d, h1, h2, fp_quot0 FP.Core.good_b64 hq0 hq (by decide) (by decide)]
  · exact fp_ddiv (by omega) hp hq0 hq
set_option maxRecDepth 8192 in
theorem fp_fdiv1 {p q : Nat} (hp : p < 2 ^ 20) (hq0 : 0 < q) (hq : q < 2 ^ 20) : FP.fdiv (FP.i2f (nI p)) (FP.l2f (lN q)) = FP.Core.of32 (FP.Core.roundRatio FP.Core.b32 false p q 0) := by
  by_cases hp0 : p = 0
  · subst hp0
    have h1 : (lN q).toInt = (q : Int) := by rw [lN_ti (by omega), if_pos (by omega)]
    have h2 : (nI 0).toInt = ((0 : Nat) : Int) := by decide
    have hd : FP.fdiv (FP.i2f (nI 0)) (FP.l2f (lN q)) = FP.Core.of32 (FP.Core.quotient FP.Core.b32 (FP.Core.val32 (FP.Core.i2f (nI 0))) (FP.Core.val32 (FP.Core.l2f (lN q)))) := rfl
    rw [hd, FP.Core.val32_i2f, FP.Core.val32_l2f, h1, h2, fp_quot0 FP.Core.good_b32 hq0 hq (by decide) (by decide)]
  · exact fp_fdiv (by omega) hp hq0 hq
set_option maxRecDepth 8192 in
theorem x8_q64 {p q : Nat} {σ : hb_M} (hp : p < 2 ^ 20) (hq0 : 0 < q) (hq : q < 2 ^ 20) : f_X8_quotientBits (lN p) (lN q) (nI 52) (nI 1023) σ = some (lN (fp_D p q), σ) ∧ fp_D p q ≤ 1044 * 2 ^ 52 := by
  by_cases hp0 : p = 0
  · subst hp0
    rw [x8_quo0, fp_D0]
    exact ⟨rfl, by decide⟩
  · obtain ⟨a, b, ha, hb, -, h1, h2, hX⟩ := x8_quo (σ := σ) (show 0 < p from by omega) hp hq0 hq (Or.inl rfl) (show 20 ≤ 1023 from by decide) (by decide)
    have hE := fp_enc (f := FP.Core.b64) (m := 52) rfl (by decide) (by decide) (show 0 < p from by omega) hq0 ha hb h1 h2
    have he : fp_D p q = (1023 + a - b) * 2 ^ 52 + (p * 2 ^ b - q * 2 ^ a) * 2 ^ 52 / (q * 2 ^ a) + q_up ((p * 2 ^ b - q * 2 ^ a) * 2 ^ 52 / (q * 2 ^ a)) ((p * 2 ^ b - q * 2 ^ a) * 2 ^ 52 % (q * 2 ^ a)) (q * 2 ^ a) := hE
    refine ⟨by rw [hX, he], ?_⟩
    rw [he]
    refine Nat.le_trans (q_top (Nat.mul_pos hq0 (Nat.two_pow_pos a)) (by omega)) (Nat.mul_le_mul_right _ (by omega))
set_option maxRecDepth 8192 in
theorem x8_q32 {p q : Nat} {σ : hb_M} (hp : p < 2 ^ 20) (hq0 : 0 < q) (hq : q < 2 ^ 20) : f_X8_quotientBits (lN p) (lN q) (nI 23) (nI 127) σ = some (lN (fp_F p q), σ) ∧ fp_F p q ≤ 148 * 2 ^ 23 := by
  by_cases hp0 : p = 0
  · subst hp0
    rw [x8_quo0, fp_F0]
    exact ⟨rfl, by decide⟩
  · obtain ⟨a, b, ha, hb, -, h1, h2, hX⟩ := x8_quo (σ := σ) (show 0 < p from by omega) hp hq0 hq (Or.inr rfl) (show 20 ≤ 127 from by decide) (by decide)
    have hE := fp_enc (f := FP.Core.b32) (m := 23) rfl (by decide) (by decide) (show 0 < p from by omega) hq0 ha hb h1 h2
    have he : fp_F p q = (127 + a - b) * 2 ^ 23 + (p * 2 ^ b - q * 2 ^ a) * 2 ^ 23 / (q * 2 ^ a) + q_up ((p * 2 ^ b - q * 2 ^ a) * 2 ^ 23 / (q * 2 ^ a)) ((p * 2 ^ b - q * 2 ^ a) * 2 ^ 23 % (q * 2 ^ a)) (q * 2 ^ a) := hE
    refine ⟨by rw [hX, he], ?_⟩
    rw [he]
    refine Nat.le_trans (q_top (Nat.mul_pos hq0 (Nat.two_pow_pos a)) (by omega)) (Nat.mul_le_mul_right _ (by omega))
set_option maxRecDepth 8192 in
theorem u_64 (x : UInt64) : x.toInt64 = lN x.toNat := by
  have h : lN x.toNat = (UInt64.ofNat x.toNat).toInt64 := rfl
  rw [h, UInt64.ofNat_toNat]
set_option maxRecDepth 8192 in
theorem u_32 (x : UInt32) : x.toInt32 = nI x.toNat := by
  have h : nI x.toNat = (UInt32.ofNat x.toNat).toInt32 := rfl
  rw [h, UInt32.ofNat_toNat]
set_option maxRecDepth 8192 in
theorem r9_b99 {p q : Nat} {σ : hb_M} (hp : p < 2 ^ 20) (hq0 : 0 < q) (hq : q < 2 ^ 20) : (FP.ddiv (FP.l2d (lN p)) (FP.i2d (nI q)) &&& 0x7fffffffffffffff ≤ 0x7ff0000000000000) ∧ f_X9_meanRetainedBits_b99 (FP.ddiv (FP.l2d (lN p)) (FP.i2d (nI q))) σ = some (lN (fp_D p q), σ) := by
  have hb := (x8_q64 (σ := σ) hp hq0 hq).2
  rw [fp_ddiv1 hp hq0 hq]
  have hf : FP.Core.fits FP.Core.b64 (FP.Core.roundRatio FP.Core.b64 false p q 0) := FP.Core.roundRatio_fits FP.Core.good_b64 false p hq0 0
  have hn : (FP.Core.of64 (FP.Core.roundRatio FP.Core.b64 false p q 0)).toNat = fp_D p q := UInt64.toNat_ofNat_of_lt' (Nat.lt_of_le_of_lt hb (by decide))
  have hv := FP.Core.val64_of64 hf
  have hs := fp_self (fp_nn FP.Core.b64 p q 0)
  obtain ⟨x, hx⟩ : ∃ x, x = FP.Core.of64 (FP.Core.roundRatio FP.Core.b64 false p q 0) := ⟨_, rfl⟩
  rw [← hx] at hn hv ⊢
  have hc : FP.dcmp x x = some .eq := by
    show FP.Core.order (FP.Core.val64 x) (FP.Core.val64 x) = _
    rw [hv]
    exact hs
  constructor
  · rw [UInt64.le_iff_toNat_le, UInt64.toNat_and, hn]
    exact Nat.le_trans Nat.and_le_left (Nat.le_trans hb (by decide))
  · unfold f_X9_meanRetainedBits_b99 f_Jxe99ae_doubleToLongBits_ccdee f_Jxe99ae_isNaN_b9ae7
    rw [hc, if_pos (by decide), u_64, hn]
    rfl
set_option maxRecDepth 8192 in
theorem r9_b50 {p q : Nat} {σ : hb_M} (hp : p < 2 ^ 20) (hq0 : 0 < q) (hq : q < 2 ^ 20) : (FP.fdiv (FP.i2f (nI p)) (FP.l2f (lN q)) &&& 0x7fffffff ≤ 0x7f800000) ∧ f_X9_shareBits_b50 (FP.fdiv (FP.i2f (nI p)) (FP.l2f (lN q))) σ = some (nI (fp_F p q), σ) := by
  have hb := (x8_q32 (σ := σ) hp hq0 hq).2
  rw [fp_fdiv1 hp hq0 hq]
  have hf : FP.Core.fits FP.Core.b32 (FP.Core.roundRatio FP.Core.b32 false p q 0) := FP.Core.roundRatio_fits FP.Core.good_b32 false p hq0 0
  have hn : (FP.Core.of32 (FP.Core.roundRatio FP.Core.b32 false p q 0)).toNat = fp_F p q := UInt32.toNat_ofNat_of_lt' (Nat.lt_of_le_of_lt hb (by decide))
  have hv := FP.Core.val32_of32 hf
  have hs := fp_self (fp_nn FP.Core.b32 p q 0)
  obtain ⟨x, hx⟩ : ∃ x, x = FP.Core.of32 (FP.Core.roundRatio FP.Core.b32 false p q 0) := ⟨_, rfl⟩
  rw [← hx] at hn hv ⊢
  have hc : FP.fcmp x x = some .eq := by
    show FP.Core.order (FP.Core.val32 x) (FP.Core.val32 x) = _
    rw [hv]
    exact hs
  constructor
  · rw [UInt32.le_iff_toNat_le, UInt32.toNat_and, hn]
    exact Nat.le_trans Nat.and_le_left (Nat.le_trans hb (by decide))
  · unfold f_X9_shareBits_b50 f_Jxf58ca_floatToIntBits_5c35a f_Jxf58ca_isNaN_12338
    rw [hc, if_pos (by decide), u_32, hn]
    rfl
set_option maxRecDepth 8192 in
theorem r9_b99z {σ : hb_M} : f_X9_meanRetainedBits_b99 FP.dconst0 σ = some (lN 0, σ) := by
  unfold f_X9_meanRetainedBits_b99 f_Jxe99ae_doubleToLongBits_ccdee f_Jxe99ae_isNaN_b9ae7
  rw [if_pos (by decide)]
  rfl
set_option maxRecDepth 8192 in
theorem r9_b50z {σ : hb_M} : f_X9_shareBits_b50 FP.fconst0 σ = some (nI 0, σ) := by
  unfold f_X9_shareBits_b50 f_Jxf58ca_floatToIntBits_5c35a f_Jxf58ca_isNaN_12338
  rw [if_pos (by decide)]
  rfl
set_option maxRecDepth 8192 in
theorem pa_so_pos (o : Nat) : 0 < pa_so A o := by
  unfold pa_so pa_sc pa_ru
  split
  · decide
  · split <;> omega
set_option maxRecDepth 8192 in
theorem px_sz_pos (w : pa_wf A) {o : Nat} (h : px_R A o = true) : 0 < px_sz A := by
  have ho := (pg_b_al w h).1
  have h1 := fb_sm_part (fun o => if px_R A o then pa_so A o else 0) ho
  simp only [h, if_true] at h1
  have h2 := pa_so_pos (A := A) o
  unfold px_sz
  omega
set_option maxRecDepth 8192 in
theorem px_szL (w : pa_wf A) : px_sz A ≤ 17600 := pr_rt_le w (px_R A) (fun _ _ h => (pg_b_al w h).2)
set_option maxRecDepth 8192 in
theorem ok_shareBits (x : Int32) (hC : cS I L r A n H t T P k B) (hA : aS A n H t T P k B) (hB : B + 1000 < 2 ^ 29) : opK (fun σ => f_L_shareBits 0 x 148 σ) (fun σ => f_X9_shareBits 130 x σ) Int32.toInt64 I L r A n H t T P k B := by
  have w := hA.2.1
  refine opK_obj (fX := fun σ => f_X8_shareBits 0 x σ) (pa_isO A x) (nI (fp_F (pd_rt A x.toNatClampNeg) (px_sz A))) (fun r5 => (hb_getR r5 0 8 1).bind fun r6 => (hb_getR r5 r6 0 6).bind fun r7 => (hb_iald r5 r7 x).bind fun r8 => (hb_getR r5 0 8 1).bind fun r9 => (hb_getI r5 r9 0 11).bind fun r10 => (f_X8_quotientBits r8.toInt64 r10.toInt64 (23 : Int32) (127 : Int32) r5).bind fun r11 => some (.inr r11.1.toInt32, r11.2)) (fun _ => rfl) ?_ ?_ ?_ ?_ hC hA hB
  · show f_X8_shareBits 0 x (pm I L r) = _
    unfold f_X8_shareBits
    simp only [pR_0_0, pbs, pO_h hp_1, x4_hasObject hp_1 hC.1 w]
  · intro e J K X R
    obtain ⟨o, ho, ha, hx⟩ := pa_isO_ex e
    subst hx
    refine ⟨J, K, ?_, fun _ _ => ⟨rfl, rfl⟩⟩
    have hp := pd_rt_le w o
    have hq := px_szL w
    have h11 : J 12 11 = nI (px_sz A) := X.2.2.2.1
    simp only [pR_0_1, pbs, pR_12_6, pA_24 ho, (X.2.2.2.2 o ho).2.2.1, pI_12_11, h11, nI_clamp (show o < 2 ^ 31 from by omega)]
    rw [nI_l (show pd_rt A o < 2 ^ 31 from by omega), nI_l (show px_sz A < 2 ^ 31 from by omega)]
    cases e2 : px_R A o
    · rw [pd_rt_un w ho e2, x8_quo0, fp_F0]
      rfl
    · rw [show (23 : Int32) = nI 23 from rfl, show (127 : Int32) = nI 127 from rfl, (x8_q32 (show pd_rt A o < 2 ^ 20 from by omega) (px_sz_pos w e2) (by omega)).1]
      simp only [pbs, lN_i]
  · intro e J K r' hJ
    unfold f_X9_shareBits
    simp only [plit, pO_130, pbs, r9_isObject hJ.1 w, e, r9_need, r9_rf (show (if false = true then 0 else 1) ≤ 100 from by decide), bIn]
    rfl
  · intro e J K r' hJ
    obtain ⟨o, ho, ha, hx⟩ := pa_isO_ex e
    subst hx
    obtain ⟨K1, g1, g2, g3, g4⟩ := r9_laysRet (L := K) (r := r') (mS_1 hJ) w
    refine ⟨_, K1, ?_, up2_eq, mK_rf (x := nI 0), fun a ha => ⟨up2_a (by omega), g3 a (by omega) (by omega)⟩⟩
    have hp := pd_rt_le w o
    have hq := px_szL w
    have hsz : f_X9_sizes 130 (hb_mk (px_R A)) (pm (up2 J 130 4 (nI 0)) K1 r') = some (lN (px_sz A), pm (up2 J 130 4 (nI 0)) K1 r') := r9_sizes (mS_1 hJ) w (px_R A) (fun _ _ h => (pg_b_al w h).2)
    unfold f_X9_shareBits
    simp only [plit, pO_130, pbs, r9_isObject hJ.1 w, e, r9_need, if_true, r9_rf (show 0 ≤ 100 from by decide), bIn, ne_eq, not_true, decide_false, g1, r9_isReached g2 ho, nI_clamp (show o < 2 ^ 31 from by omega)]
    cases e2 : px_R A o
    · rw [if_pos rfl, r9_b50z, pd_rt_un w ho e2, fp_F0]
    · have hd := r9_b50 (σ := pm (up2 J 130 4 (nI 0)) K1 r') (show pd_rt A o < 2 ^ 20 from by omega) (px_sz_pos w e2) (by omega)
      rw [if_neg (by decide)]
      simp only [r9_retBy (mS_1 hJ) w g2 ho, pbs, pO_130, pI_130_11, g2.1, hsz]
      rw [if_neg (not_not_intro hd.1), hd.2]
set_option maxRecDepth 8192 in
theorem xc_inL {f : Option ((String ⊕ Int64) × hb_M)} {v : Int64} {r' : Nat → Option Nat} {kE : String → hb_M → Option (Int32 × hb_M)} (h : f = some (.inr v, pm J K r')) : (hb_xc (hb_on (pm I L r) 0 8 f) kE fun v1 r1 => (hb_last r1 148 (0 : Int32) v1).bind fun r2 => some ((0 : Int32), r2)) = some (nI 0, pm J (up2 K 148 0 v) r') := by
  rw [pO_0, h, xc_r, show (0 : Int32) = nI 0 from rfl, pS_148 (by decide)]
  rfl
noncomputable def mn_p (A : Nat → Nat → Nat) (g o : Nat) : Bool := pa_grp A g false o && px_R A o
noncomputable def mn_s (A : Nat → Nat → Nat) (g : Nat) : Nat := fb_sm (fun i => if mn_p A g i then pd_rt A i else 0) 40
set_option maxRecDepth 8192 in
theorem mn_le (w : pa_wf A) (g : Nat) : mn_s A g ≤ 704000 := by
  refine Nat.le_trans (fb_sm_bound (c := 17600) (fun i _ => ?_)) (by decide)
  have := pd_rt_le w i
  show (if mn_p A g i then pd_rt A i else 0) ≤ 17600
  split <;> omega
set_option maxRecDepth 8192 in
theorem x8_meanLoop (X : px_an I L A) (g : Nat) (w : pa_wf A) : f_X8_meanRetainedBits_b45 hb_FU 0 (hb_mk (mn_p A g)) (0 : Int32) (0 : Int32) (pm I L r) = some (.inr (lN (fp_D (mn_s A g) (fb_ct (mn_p A g) 40))), pm I L r) := by
  have hl := pm_loop (fun n a i => f_X8_meanRetainedBits_b45 n 0 (hb_mk (mn_p A g)) a (nI i) (pm I L r)) (fun i a => a + nI (if mn_p A g i then pd_rt A i else 0)) 40 (out := fun a => (f_X8_quotientBits a.toInt64 (nI (fb_ct (mn_p A g) 40)).toInt64 (nI 52) (nI 1023) (pm I L r)).bind fun r3 => some (.inr r3.1, r3.2)) (by
    intro n a i hi
    have h24 := (X.2.2.2.2 i hi).2.2.1
    simp (disch := omega) only [f_X8_meanRetainedBits_b45, f_X8_meanRetainedBits_b77, plit, pn_le, x8_containsN hi, pbs, bIn, nI_add, pR_0_1, pR_12_6, pA_24 hi, h24]
    rw [if_neg (by omega)]
    cases e : mn_p A g i
    · simp
    · simp) (by
    intro n a
    rw [f_X8_meanRetainedBits_b45, if_pos (by decide), pc_bitCount]
    rfl) (nI 0) hb_FU (by decide)
  refine hl.trans ?_
  rw [pm_fold_sum, Nat.zero_add]
  have h1 := mn_le w g
  have h2 := fb_ct_le (mn_p A g) 40
  show (f_X8_quotientBits (nI (mn_s A g)).toInt64 _ _ _ _).bind _ = _
  rw [nI_l (show mn_s A g < 2 ^ 31 from by omega), nI_l (show fb_ct (mn_p A g) 40 < 2 ^ 31 from by omega)]
  by_cases e : fb_ct (mn_p A g) 40 = 0
  · have hz : mn_s A g = 0 := by
      have h3 := fb_ct_zero.mp e
      unfold mn_s
      rw [fb_sm_cong (g := fun _ => 0) (fun k hk => by rw [h3 k hk]; rfl), fb_sm_const]
    rw [hz, x8_quo0, fp_D0]
    rfl
  · rw [(x8_q64 (show mn_s A g < 2 ^ 20 from by omega) (show 0 < fb_ct (mn_p A g) 40 from by omega) (by omega)).1]
    rfl
set_option maxRecDepth 8192 in
theorem r9_meanLoop (hN : pr_row (I 131) A) (w : pa_wf A) (hR : mR L A) (g : Nat) : f_X9_meanRetainedBits_b40 hb_FU 130 (hb_mk (mn_p A g)) (0 : Int64) (0 : Int32) (pm I L r) = some (lN (fp_D (mn_s A g) (fb_ct (mn_p A g) 40)), pm I L r) := by
  have hl := pm_loop (fun n a i => f_X9_meanRetainedBits_b40 n 130 (hb_mk (mn_p A g)) a (nI i) (pm I L r)) (fun i a => a + lN (if mn_p A g i then pd_rt A i else 0)) 40 (out := fun a => if (lg_cmp (hb_mk (mn_p A g)) (0 : Int64)) = 0 then f_X9_meanRetainedBits_b99 FP.dconst0 (pm I L r) else if ¬ ((FP.ddiv (FP.l2d a) (FP.i2d (nI (fb_ct (mn_p A g) 40)))) &&& 0x7fffffffffffffff ≤ 0x7ff0000000000000) then none else f_X9_meanRetainedBits_b99 (FP.ddiv (FP.l2d a) (FP.i2d (nI (fb_ct (mn_p A g) 40)))) (pm I L r)) (by
    intro n a i hi
    have hb := pd_rt_le w i
    simp (disch := omega) only [f_X9_meanRetainedBits_b40, f_X9_meanRetainedBits_b71, plit, pn_le, pb_cS hi, pb_cmpE, pb_l1', pbs, nI_add, pO_130, r9_retBy hN w hR hi]
    rw [if_neg (by omega)]
    cases e : mn_p A g i
    · rw [if_neg (by decide)]
      rfl
    · rw [if_pos rfl, if_pos rfl, nI_l (by omega)]) (by
    intro n a
    rw [f_X9_meanRetainedBits_b40, if_pos (by decide), r9_bits]
    rfl) (lN 0) hb_FU (by decide)
  refine hl.trans ?_
  rw [pm_fold_sumL, Nat.zero_add]
  have h1 := mn_le w g
  have h2 := fb_ct_le (mn_p A g) 40
  by_cases e : fb_ct (mn_p A g) 40 = 0
  · have h3 := fb_ct_zero.mp e
    have hz : mn_s A g = 0 := by
      unfold mn_s
      rw [fb_sm_cong (g := fun _ => 0) (fun k hk => by rw [h3 k hk]; rfl), fb_sm_const]
    rw [if_pos (show lg_cmp (hb_mk (mn_p A g)) 0 = (0 : Int32) from pb_cmp0.mpr (pb_zero.mpr h3)), r9_b99z, hz, fp_D0]
  · have hd := r9_b99 (σ := pm I L r) (show mn_s A g < 2 ^ 20 from by omega) (show 0 < fb_ct (mn_p A g) 40 from by omega) (by omega)
    have h3 : fb_sm (fun i => if mn_p A g i then pd_rt A i else 0) 40 = mn_s A g := rfl
    rw [if_neg (show ¬ lg_cmp (hb_mk (mn_p A g)) 0 = (0 : Int32) from fun h => e (fb_ct_zero.mpr (pb_zero.mp (pb_cmp0.mp h)))), h3, if_neg (not_not_intro hd.1), hd.2]
set_option maxRecDepth 8192 in
theorem ok_meanRetainedBits (x : Int32) (hC : cS I L r A n H t T P k B) (hA : aS A n H t T P k B) (hB : B + 1000 < 2 ^ 29) : opK (fun σ => f_L_meanRetainedBits 0 x 148 σ) (fun σ => f_X9_meanRetainedBits 130 x σ) id I L r A n H t T P k B := by
  have w := hA.2.1
  have hX : f_X8_meanRetainedBits 0 x (pm I L r) = hb_xb (f_X8_refuseUnless (bI (pa_isG A x)) (pm I L r)) fun v3 r3 => (hb_getR r3 0 8 1).bind fun r4 => (hb_on r3 r4 0 (f_X0_refresh r4 r3)).bind fun r5 => (hb_getR r5 0 8 0).bind fun r6 => (hb_on r5 r6 4 (f_X4_membersOf r6 x (0 : Int32) r5)).bind fun r7 => (hb_getR r7.2 0 8 1).bind fun r8 => (hb_getR r7.2 r8 0 1).bind fun r9 => (hb_getL r7.2 r9 6 4).bind fun r10 => f_X8_meanRetainedBits_b45 hb_FU 0 (r7.1 &&& r10) (0 : Int32) (0 : Int32) r7.2 := by
    unfold f_X8_meanRetainedBits
    simp only [pR_0_0, pbs, pO_h hp_1, x4_hasGroup hp_1 hC.1 w]
  rw [pz_xu] at hX
  cases e : pa_isG A x
  · rw [e, if_neg (by decide)] at hX
    refine opK_rf (0 : Int64) (c := 1) (by decide) (by decide) ?_ ?_ hC hA hB
    · show f_L_meanRetainedBits 0 x 148 (pm I L r) = _
      unfold f_L_meanRetainedBits
      rw [xc_ex hX]
      exact if_pos rfl
    · intro J K r' hJ
      show f_X9_meanRetainedBits 130 x (pm J K r') = _
      unfold f_X9_meanRetainedBits
      simp only [plit, pO_130, pbs, r9_isGroup hJ.1 w, e, r9_need, r9_rf (show (if false = true then 0 else 1) ≤ 100 from by decide), bIn]
      rfl
  · rw [e, if_pos rfl] at hX
    obtain ⟨g, hx, hg, -⟩ := pa_isG_ex w e
    subst hx
    obtain ⟨J, K, g1, g2, g3, g4⟩ := cS_refresh hC hA
    have hmem : f_X4_membersOf 1 (nI g) (bI false) (pm J K r) = some (hb_mk (pa_grp A g false), pm J K r) := x4_membersOf hp_1 g2.1 w hg false
    refine opK_ask (lN (fp_D (mn_s A g) (fb_ct (mn_p A g) 40))) ⟨J, K, ?_, g2, fun a a1 a2 => g4 a (by omega)⟩ ?_ hA hB
    · show f_L_meanRetainedBits 0 (nI g) 148 (pm I L r) = _
      unfold f_L_meanRetainedBits
      refine xc_inL ?_
      rw [hX]
      simp only [pR_0_1, pR_0_0, pbs, pO_12, g1, pO_h hp_1, show (0 : Int32) = bI false from rfl, hmem, pR_12_1, pI_13_4, g3.2.2.1, pb_and]
      exact x8_meanLoop g3 g w
    · intro J K r' hJ
      obtain ⟨K1, l1, l2, l3, l4⟩ := r9_laysRet (L := K) (r := r') (mS_1 hJ) w
      refine ⟨_, K1, ?_, up2_eq, mK_rf (x := nI 0), fun a ha => ⟨up2_a (by omega), l3 a (by omega) (by omega)⟩⟩
      show f_X9_meanRetainedBits 130 (nI g) (pm J K r') = _
      have hgs : f_X9_groupSet 130 (nI g) (nI 0) (pm (up2 J 130 4 (nI 0)) K1 r') = some (hb_mk (pa_grp A g false), pm (up2 J 130 4 (nI 0)) K1 r') := r9_groupSet (L := K1) (r := r') (mS_1 hJ) w hg false
      unfold f_X9_meanRetainedBits
      simp only [plit, pO_130, pbs, r9_isGroup hJ.1 w, e, r9_need, if_true, r9_rf (show 0 ≤ 100 from by decide), bIn, ne_eq, not_true, decide_false, l1]
      rw [hgs]
      simp only [pbs, pI_130_11, l2.1, pb_and]
      exact r9_meanLoop (mS_1 hJ) w l2 g
end FPE
