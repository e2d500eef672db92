/-! pictures -/
set_option maxRecDepth 8192 in
theorem fb_ct_inj {p q : Nat → Bool} {n : Nat} (f : Nat → Nat) (h : ∀ i, i < n → p i = true → f i < n ∧ q (f i) = true) (hi : ∀ i j, i < n → j < n → p i = true → p j = true → f i = f j → i = j) : fb_ct p n ≤ fb_ct q n := by
  have hex : ∀ k, k < fb_ct p n → ∃ i, i < n ∧ p i = true ∧ fb_ct p i = k := fun k hk => fb_ct_kth hk
  have hch : ∃ e : Nat → Nat, ∀ k, k < fb_ct p n → e k < n ∧ p (e k) = true ∧ fb_ct p (e k) = k := by
    refine ⟨fun k => if hk : k < fb_ct p n then (hex k hk).choose else 0, ?_⟩
    intro k hk
    simp only [hk, dif_pos]
    exact (hex k hk).choose_spec
  obtain ⟨e, he⟩ := hch
  refine fb_holes (fb_ct q n) (fb_ct p n) (fun k => fb_ct q (f (e k))) (fun k hk => ?_) (fun i j hij hj heq => ?_)
  · obtain ⟨h1, h2, -⟩ := he k hk
    obtain ⟨g1, g2⟩ := h _ h1 h2
    have := fb_ct_mono q (show f (e k) + 1 ≤ n from by omega)
    rw [fb_ct_succ, g2] at this
    simp only [if_true] at this
    omega
  · obtain ⟨i1, i2, i3⟩ := he i (by omega)
    obtain ⟨j1, j2, j3⟩ := he j hj
    have := fb_ct_kth_one (h _ i1 i2).2 (h _ j1 j2).2 heq
    have := hi _ _ i1 j1 i2 j2 this
    rw [this, j3] at i3
    omega
set_option maxRecDepth 8192 in
theorem nI_dif (a b c d : Nat) : nI a - nI c + nI b - nI d = nI (a + b) - nI (c + d) := by
  rw [← nI_add, ← nI_add]
  generalize nI a = x
  generalize nI b = y
  generalize nI c = z
  generalize nI d = v
  rw [Int32.sub_eq_add_neg x z, Int32.add_assoc x (-z) y, Int32.add_comm (-z) y, ← Int32.add_assoc x y (-z), Int32.sub_eq_add_neg (x + y + -z) v, Int32.add_assoc (x + y) (-z) (-v), Int32.sub_eq_add_neg (x + y) (z + v), Int32.neg_add, Int32.sub_eq_add_neg (-z) v]
set_option maxRecDepth 8192 in
theorem nI_dif0 {a b : Nat} (h : b ≤ a) : nI a - nI b = nI (a - b) := by
  obtain ⟨d, rfl⟩ : ∃ d, a = d + b := ⟨a - b, by omega⟩
  rw [← nI_add, Nat.add_sub_cancel, Int32.sub_eq_add_neg, Int32.add_assoc, ← Int32.sub_eq_add_neg, Int32.sub_self, Int32.add_zero]
/-! as many of the one are in the other as the other way round -/
set_option maxRecDepth 8192 in
theorem pa_both {A B : Nat → Nat → Nat} (w : pa_wf A) (w2 : pa_wf B) : fb_ct (fun o => pa_al A o && decide (pa_ws B (A o 0) ≠ 0)) 40 ≤ fb_ct (fun o => pa_al B o && decide (pa_ws A (B o 0) ≠ 0)) 40 := by
  refine fb_ct_inj (fun o => pa_ws B (A o 0) - 1) (fun o ho h => ?_) (fun i j hi hj h1 h2 he => ?_)
  · simp only [Bool.and_eq_true, decide_eq_true_eq, pa_al] at h
    obtain ⟨q, hq⟩ : ∃ q, pa_ws B (A o 0) = q + 1 := ⟨pa_ws B (A o 0) - 1, by omega⟩
    obtain ⟨q1, q2, q3⟩ := pa_ws_al w2 h.1 hq
    rw [hq, Nat.add_sub_cancel]
    refine ⟨q1, ?_⟩
    simp only [Bool.and_eq_true, decide_eq_true_eq, pa_al]
    refine ⟨q2, fun h0 => ?_⟩
    have := pf1_none h0 o ho
    rw [q3] at this
    simp at this
  · simp only [Bool.and_eq_true, decide_eq_true_eq, pa_al] at h1 h2
    obtain ⟨q, hq⟩ : ∃ q, pa_ws B (A i 0) = q + 1 := ⟨pa_ws B (A i 0) - 1, by omega⟩
    obtain ⟨z, hz⟩ : ∃ z, pa_ws B (A j 0) = z + 1 := ⟨pa_ws B (A j 0) - 1, by omega⟩
    obtain ⟨-, -, q3⟩ := pa_ws_al w2 h1.1 hq
    obtain ⟨-, -, z3⟩ := pa_ws_al w2 h2.1 hz
    have : q = z := by
      have he : pa_ws B (A i 0) - 1 = pa_ws B (A j 0) - 1 := he
      omega
    subst this
    exact w.2.2.2.2 i j hi hj h1.1 (by rw [← q3, z3])
set_option maxRecDepth 8192 in
theorem pa_nin_eq {A B : Nat → Nat → Nat} (w : pa_wf A) (w2 : pa_wf B) : pa_nin B A + fb_ct (fun o => pa_al A o && decide (pa_ws B (A o 0) ≠ 0)) 40 = fb_ct (pa_al B) 40 := by
  have h1 := pa_both w w2
  have h2 := pa_both w2 w
  have h3 := fb_ct_or (p := fun o => pa_al B o && decide (pa_ws A (B o 0) = 0)) (q := fun o => pa_al B o && decide (pa_ws A (B o 0) ≠ 0)) (n := 40) (fun k _ h => by
    simp only [Bool.and_eq_true, decide_eq_true_eq] at h
    exact h.2.2 h.1.2)
  have h4 : fb_ct (fun k => (pa_al B k && decide (pa_ws A (B k 0) = 0)) || (pa_al B k && decide (pa_ws A (B k 0) ≠ 0))) 40 = fb_ct (pa_al B) 40 := fb_ct_cong (fun k _ => by
    cases pa_al B k
    · rfl
    · by_cases e : pa_ws A (B k 0) = 0 <;> simp [e])
  unfold pa_nin
  omega
/-- a cell of a picture -/
def pp_v (A : Nat → Nat → Nat) (z : Nat) : Int32 := nI (if A (z / 13) 0 = 0 then 0 else if z % 13 < 5 then A (z / 13) (z % 13) else pa_sr A (z / 13) (z % 13 - 5))
section PIC
variable {I J : Nat → Nat → Int32} {L K : Nat → Nat → Int64} {r : Nat → Option Nat} {A : Nat → Nat → Nat} {n : Nat} {H : Nat → Nat → Nat → Nat} {t : Nat} {T : Nat → Nat} {P : Nat → Nat → Nat → Nat} {k : Nat → Bool} {B : Nat}
set_option maxRecDepth 8192 in
theorem pA_106 {p : Nat} (h : p < 2) : hb_aald (pm I L r) 106 (nI p) = some (107 + 11 * p) := by
  refine pm_aald (n := 2) rfl (by decide) h ?_
  match p, h with
  | 0, _ => rfl
  | 1, _ => rfl
set_option maxRecDepth 8192 in
theorem x8_isPicture {x : Int32} {σ : hb_M} : f_X8_isPicture x σ = some (bI (pn_at 2 x).isSome, σ) := by
  unfold f_X8_isPicture
  simp only [plit]
  cases e : pn_at 2 x with
  | none =>
    rcases pn_none (by decide) e with h | ⟨h, h1⟩
    · rw [if_pos h]; rfl
    · rw [if_neg h, if_pos h1]; rfl
  | some p =>
    obtain ⟨hp, hx⟩ := pn_at_some (by decide) e
    subst hx
    simp (disch := omega) only [pn_lt0, if_false, pn_le]
    rw [if_neg (by omega)]
    rfl
set_option maxRecDepth 8192 in
theorem r9_isPicture {x : Int32} {σ : hb_M} : f_X9_isPicture x σ = some (bI (pn_at 2 x).isSome, σ) := by
  unfold f_X9_isPicture
  simp only [plit, r9_in (show 1 + 1 < 2 ^ 31 from by decide), pbs]
  exact pz_zr
set_option maxRecDepth 8192 in
theorem r9_serialIn (hN : pr_row (I 131) A) (w : pa_wf A) {o s : Nat} (ho : o < 40) (ha : A o 0 ≠ 0) (hs : s < 8) : f_X9_serialIn 130 (nI o) (nI s) (pm I L r) = some (nI (pa_sr A o s), pm I L r) := by
  have h5 := (hN.2.2.2 o ho).2 s hs
  obtain ⟨-, h40, -⟩ := (w.2.2.2.1 o ho ha).2.2.2 s hs
  unfold f_X9_serialIn pa_sr
  simp (disch := omega) only [pbs, pO_130, pR_130_0, pA_131, pS_131, plit, nI_add, pk_mul, pn_le, pn_lt, if_true, if_false, reduceIte, r9_at, h5, mI_none]
  by_cases e : A o (5 + s) = 0
  · rw [if_pos e, if_pos e]
  · obtain ⟨q, hq⟩ : ∃ q, A o (5 + s) = q + 1 := ⟨A o (5 + s) - 1, by omega⟩
    have h0 := (hN.2.2.2 q (by omega)).1 0 (by decide)
    rw [if_neg e, if_neg e, hq, mI_s, Nat.add_sub_cancel]
    simp (disch := omega) only [pbs, pO_130, pR_130_0, pA_131, pS_131, plit, nI_add, pk_mul, pn_le, pn_lt, if_true, if_false, reduceIte, r9_at, h0]
set_option maxRecDepth 8192 in
theorem ok_take (x : Int32) (hC : cS I L r A n H t T P k B) (hA : aS A n H t T P k B) (hB : B + 1000 < 2 ^ 29) : opK (fun σ => f_L_take 0 x 148 σ) (fun σ => f_X9_take 130 x σ) Int32.toInt64 I L r A n H t T P k B := by
  have w := hA.2.1
  have hX : f_X8_take 0 x (pm I L r) = hb_xb (f_X8_refuseUnless (bI (pn_at 2 x).isSome) (pm I L r)) fun v2 r2 => (hb_getR r2 0 8 7).bind fun r3 => (hb_aald r2 r3 x).bind fun r4 => (hb_getR r2 0 8 0).bind fun r5 => (hb_on r2 r4 4 (f_X4_copyFrom r4 r5 r2)).bind fun r6 => (hb_getR r6 0 8 8).bind fun r7 => (hb_zast r6 r7 x (1 : Int32)).bind fun r8 => (hb_getR r8 0 8 0).bind fun r9 => (hb_on r8 r9 4 (f_X4_objectCount r9 r8)).bind fun r10 => some (.inr r10.1, r10.2) := by
    unfold f_X8_take
    simp only [x8_isPicture, pbs]
  rw [pz_xu] at hX
  cases e : pn_at 2 x with
  | none =>
    rw [e] at hX
    refine opK_rf (nI 0) (c := 1) (by decide) (by decide) ?_ ?_ hC hA hB
    · show f_L_take 0 x 148 (pm I L r) = _
      unfold f_L_take
      rw [xc_ex hX]
      exact if_pos rfl
    · intro J K r' hJ
      show f_X9_take 130 x (pm J K r') = _
      unfold f_X9_take
      simp only [r9_isPicture, e, Option.isSome_none, pO_130, pbs, r9_need, r9_rf (show (if false = true then 0 else 1) ≤ 100 from by decide), plit, bIn]
      rfl
  | some p =>
    obtain ⟨hp, hx⟩ := pn_at_some (by decide) e
    subst hx
    rw [e, Option.isSome_some, if_pos rfl] at hX
    obtain ⟨h1, h2, ⟨π, h3⟩, h4, h5⟩ := hC
    have hfr : ∀ a, (a < 107 + 11 * p ∨ 107 + 11 * p + 10 < a) → a ≠ 129 → up2 (pu_cp I (107 + 11 * p) 1) 129 p (nI 1) a = I a := fun a ha h => by rw [up2_a h, pu_cp_fr a ha]
    have hR1 : ph_rep (up2 (pu_cp I (107 + 11 * p) 1) 129 p (nI 1)) 1 A := ph_fr h1 (fun a _ _ => hfr a (by omega) (by omega))
    refine opK_yes (A' := A) (n' := n) (H' := H) (t' := t) (T' := T) (P' := fun q => if q = p then A else P q) (k' := fun q => if q = p then true else k q) (nI (fb_ct (pa_al A) 40)) ?_ ?_ ?_
    · refine ⟨up2 (pu_cp I (107 + 11 * p) 1) 129 p (nI 1), L, r, ?_, ⟨hR1, cV_le (cV_fr h2 (fun a _ => ⟨hfr a (by omega) (by omega), rfl⟩)) (by omega), ⟨π, cH_fr h3 (fun _ _ => rfl) (fun a _ _ => hfr a (by omega) (by omega))⟩, cT_fr h4 (fun a _ => hfr a (by omega) (by omega)), ?_⟩, fun a a1 _ => ⟨hfr a (by omega) (by omega), rfl⟩⟩
      · show f_L_take 0 (nI p) 148 (pm I L r) = _
        unfold f_L_take
        refine xc_in ?_
        rw [hX]
        simp only [pR_0_7, pR_0_0, pR_0_8, pbs, pA_106 hp, pO_h (hp_pi hp), x4_copyFrom (hp_pi hp) hp_1 (show 107 + 11 * p ≠ 1 from by omega), plit, pS_129 hp (Or.inr rfl), pO_h hp_1, x4_objectCount hp_1 hR1 w]
      · intro q hq
        by_cases eq : q = p
        · subst eq
          simp only [if_true]
          exact ⟨up2_eq, fun _ => ph_fr (ph_cp h1 w (by omega)) (fun a _ _ => up2_a (by omega))⟩
        · simp only [eq, if_false]
          obtain ⟨c1, c2⟩ := h5 q hq
          refine ⟨by rw [up2_nj eq, pu_cp_fr 129 (by omega)]; exact c1, fun hk => ph_fr (c2 hk) (fun a _ _ => hfr a (by omega) (by omega))⟩
    · intro J K r' hJ
      have hN := mS_1 hJ
      obtain ⟨J0, hJ0⟩ : ∃ J0, J0 = up2 J 130 4 (nI 0) := ⟨_, rfl⟩
      rw [← hJ0] at hN
      obtain ⟨W, hW⟩ : ∃ W : Nat → Nat → Nat → Int32, W = fun m => pu_rng J0 135 (520 * p) m (pp_v A) := ⟨_, rfl⟩
      have hWu : ∀ m, up2 (W m) 135 (520 * p + m) (pp_v A m) = W (m + 1) := fun m => by
        rw [hW]
        exact pu_rng_up J0 135 (520 * p) m (pp_v A)
      have hWn : ∀ m a, a ≠ 135 → W m a = J0 a := fun m a ha => by
        rw [hW]
        funext j
        exact pu_rng_ne ha
      have hWr : ∀ m, pr_row (W m 131) A := fun m => by
        rw [hWn m 131 (by decide)]
        exact hN
      -- one object
      have hobj : ∀ (F : Nat) (i : Nat) (z : Int32), i < 40 → f_X9_take_b66 (f_X9_take_b21 F) hb_FU 130 (nI p) z (nI i) (nI (520 * p + 13 * i)) (bI (pa_al A i)) (nI 0) (pm (W (13 * i)) K r') = f_X9_take_b21 F 130 (nI p) z (nI (i + 1)) (pm (W (13 * (i + 1))) K r') := by
        intro F i z hi
        have hv1 : ∀ q, q < 5 → pp_v A (13 * i + q) = nI (if A i 0 = 0 then 0 else A i q) := fun q hq => by
          unfold pp_v
          rw [show (13 * i + q) / 13 = i from by omega, show (13 * i + q) % 13 = q from by omega, if_pos hq]
        have hv2 : ∀ s, s < 8 → pp_v A (13 * i + 5 + s) = nI (if A i 0 = 0 then 0 else pa_sr A i s) := fun s hs => by
          unfold pp_v
          rw [show (13 * i + 5 + s) / 13 = i from by omega, show (13 * i + 5 + s) % 13 = 5 + s from by omega, if_neg (show ¬ 5 + s < 5 from by omega), Nat.add_sub_cancel_left]
        have hsl : f_X9_take_b112 (f_X9_take_b21 F) hb_FU 130 (nI p) z (nI i) (nI (520 * p + 13 * i)) (bI (pa_al A i)) (nI 0) (pm (W (13 * i + 5 + 0)) K r') = f_X9_take_b21 F 130 (nI p) z (nI (i + 1)) (pm (W (13 * (i + 1))) K r') := by
          exact pm_seq (fun n (a : Nat → Nat → Int32) s => f_X9_take_b112 (f_X9_take_b21 F) n 130 (nI p) z (nI i) (nI (520 * p + 13 * i)) (bI (pa_al A i)) (nI s) (pm a K r')) (fun s => W (13 * i + 5 + s)) 8 (out := f_X9_take_b21 F 130 (nI p) z (nI (i + 1)) (pm (W (13 * (i + 1))) K r')) (by
            intro n s hs
            have hu := hWu (13 * i + 5 + s)
            rw [hv2 s hs, show 520 * p + (13 * i + 5 + s) = 520 * p + 13 * i + 5 + s from by omega] at hu
            simp (disch := omega) only [f_X9_take_b112, f_X9_take_b146, plit, pn_le, pR_130_7, pbs, bIn, nI_add, pS_135, pO_130]
            rw [if_neg (show ¬ 8 ≤ s from by omega)]
            by_cases ha : A i 0 = 0
            · rw [if_pos (by simp [pa_al, ha])]
              rw [if_pos ha] at hu
              rw [hu]
              rfl
            · rw [if_neg (by simp [pa_al, ha])]
              rw [if_neg ha] at hu
              simp (disch := omega) only [r9_serialIn (hWr _) w hi ha hs, pbs, pS_135, hu]
              rfl) (by
            intro n
            rw [f_X9_take_b112, if_pos (by decide)]
            simp only [plit, nI_add]
            rw [show 13 * i + 5 + 8 = 13 * (i + 1) from by omega]) hb_FU (by decide)
        exact pm_seq (fun n (a : Nat → Nat → Int32) q => f_X9_take_b66 (f_X9_take_b21 F) n 130 (nI p) z (nI i) (nI (520 * p + 13 * i)) (bI (pa_al A i)) (nI q) (pm a K r')) (fun q => W (13 * i + q)) 5 (out := f_X9_take_b21 F 130 (nI p) z (nI (i + 1)) (pm (W (13 * (i + 1))) K r')) (by
          intro n q hq
          have hu := hWu (13 * i + q)
          have hc := ((hWr (13 * i + q)).2.2.2 i hi).1 q hq
          rw [hv1 q hq, show 520 * p + (13 * i + q) = 520 * p + 13 * i + q from by omega] at hu
          simp (disch := omega) only [f_X9_take_b66, f_X9_take_b102, plit, pn_le, pR_130_7, pR_130_0, pbs, bIn, nI_add, pS_135, r9_at, pA_131, hc]
          rw [if_neg (show ¬ 5 ≤ q from by omega)]
          by_cases ha : A i 0 = 0
          · rw [if_pos (by simp [pa_al, ha])]
            rw [if_pos ha] at hu
            rw [hu]
            rfl
          · rw [if_neg (by simp [pa_al, ha])]
            rw [if_neg ha] at hu
            rw [hu]
            rfl) (by
          intro n
          rw [f_X9_take_b66, if_pos (by decide)]
          exact hsl) hb_FU (by decide)
      obtain ⟨sz, hsz⟩ : ∃ sz : Nat → Nat, sz = fun m => fb_sm (fun o => if pa_al A o then pa_so A o else 0) m := ⟨_, rfl⟩
      have hl := pm_seq (fun n (a : Nat × (Nat → Nat → Int32)) i => f_X9_take_b21 n 130 (nI p) (nI a.1) (nI i) (pm a.2 K r')) (fun i => (sz i, W (13 * i))) 40 (out := some (nI (fb_ct (pa_al A) 40), pm (up2 (up2 (W 520) 136 p (nI 1)) 137 p (nI (sz 40))) K r')) (by
        intro n i hi
        have hs : sz (i + 1) = sz i + (if pa_al A i then pa_so A i else 0) := by rw [hsz]; rfl
        have ho := hobj n i (nI (sz (i + 1))) hi
        simp (disch := omega) only [f_X9_take_b21, f_X9_take_b61, plit, pn_le, pO_130, r9_isObj (hWr _) w hi, pbs, bIn, pk_mul, nI_add]
        rw [if_neg (show ¬ 40 ≤ i from by omega), ← ho, hs]
        by_cases ha : A i 0 = 0
        · have e1 : pa_al A i = false := by simp [pa_al, ha]
          rw [e1, if_pos rfl]
          rfl
        · have e1 : pa_al A i = true := by simp [pa_al, ha]
          rw [e1, if_neg (by decide), r9_sizeOf (hWr _) w hi ha]
          simp only [pbs, if_true, nI_add]) (by
        intro n
        have hr3 : pr_row (up2 (up2 (W (13 * 40)) 136 p (nI 1)) 137 p (nI (sz 40)) 131) A := by
          rw [up2_a (by decide), up2_a (by decide)]
          exact hWr _
        simp (disch := omega) only [f_X9_take_b21, plit, pn_le, Nat.le_refl, if_true, pR_130_8, pR_130_9, pbs, pS_136, pS_137, pO_130, r9_many hr3 w]) hb_FU (by decide)
      have hs0 : sz 0 = 0 := by rw [hsz]; rfl
      have hW0 : W (13 * 0) = J0 := by rw [hW]; exact pu_rng_0 J0 135 (520 * p) (pp_v A)
      simp only [hs0, hW0] at hl
      refine ⟨up2 (up2 (W 520) 136 p (nI 1)) 137 p (nI (sz 40)), K, ?_, ?_, ⟨?_, ?_, ?_, ⟨?_, ?_⟩, ?_⟩, ?_⟩
      · show f_X9_take 130 (nI p) (pm J K r') = _
        unfold f_X9_take
        simp only [r9_isPicture, e, Option.isSome_some, pO_130, pbs, r9_need, if_true, r9_rf (show 0 ≤ 100 from by decide), plit, bIn, ne_eq, not_true, decide_false, ← hJ0]
        exact hl
      · rw [up2_ne (by decide), up2_ne (by decide), hWn 520 130 (by decide), hJ0, up2_eq]
      · rw [up2_a (by decide), up2_a (by decide)]
        exact hWr 520
      · rw [up2_ne (by decide), up2_ne (by decide), hWn 520 130 (by decide), hJ0, up2_nj (by decide)]
        exact hJ.2.1
      · intro i hi
        rw [up2_a (by decide), up2_a (by decide), hWn 520 132 (by decide), hJ0, up2_a (by decide)]
        exact hJ.2.2.1 i hi
      · rw [up2_ne (by decide), up2_ne (by decide), hWn 520 130 (by decide), hJ0, up2_nj (by decide)]
        exact hJ.2.2.2.1.1
      · intro j hj
        rw [up2_a (by decide), up2_a (by decide), hWn 520 134 (by decide), hJ0, up2_a (by decide)]
        exact hJ.2.2.2.1.2 j hj
      · intro q hq
        obtain ⟨m1, m2⟩ := hJ.2.2.2.2 q hq
        by_cases eq : q = p
        · subst eq
          simp only [if_true]
          refine ⟨by rw [up2_ne (by decide), up2_eq]; rfl, fun _ => ⟨by rw [up2_eq, hsz], fun o ho => ⟨fun j hj => ?_, fun s hs => ?_⟩⟩⟩
          · rw [up2_ne (by decide), up2_ne (by decide), hW]
            show pu_rng J0 135 (520 * q) 520 (pp_v A) 135 (520 * q + 13 * o + j) = _
            rw [pu_rng_in (by omega) (by omega), show 520 * q + 13 * o + j - 520 * q = 13 * o + j from by omega]
            unfold pp_v
            rw [show (13 * o + j) / 13 = o from by omega, show (13 * o + j) % 13 = j from by omega, if_pos hj]
          · rw [up2_ne (by decide), up2_ne (by decide), hW]
            show pu_rng J0 135 (520 * q) 520 (pp_v A) 135 (520 * q + 13 * o + 5 + s) = _
            rw [pu_rng_in (by omega) (by omega), show 520 * q + 13 * o + 5 + s - 520 * q = 13 * o + (5 + s) from by omega]
            unfold pp_v
            rw [show (13 * o + (5 + s)) / 13 = o from by omega, show (13 * o + (5 + s)) % 13 = 5 + s from by omega, if_neg (show ¬ 5 + s < 5 from by omega), Nat.add_sub_cancel_left]
        · simp only [eq, if_false]
          refine ⟨by rw [up2_ne (by decide), up2_nj eq, hWn 520 136 (by decide), hJ0, up2_ne (by decide)]; exact m1, fun hk => ?_⟩
          obtain ⟨m3, m4⟩ := m2 hk
          refine ⟨by rw [up2_nj eq, up2_ne (by decide), hWn 520 137 (by decide), hJ0, up2_ne (by decide)]; exact m3, fun o ho => ⟨fun j hj => ?_, fun s hs => ?_⟩⟩
          · rw [up2_ne (by decide), up2_ne (by decide), hW]
            show pu_rng J0 135 (520 * p) 520 (pp_v A) 135 (520 * q + 13 * o + j) = _
            rw [pu_rng_out (by omega), hJ0, up2_ne (by decide)]
            exact (m4 o ho).1 j hj
          · rw [up2_ne (by decide), up2_ne (by decide), hW]
            show pu_rng J0 135 (520 * p) 520 (pp_v A) 135 (520 * q + 13 * o + 5 + s) = _
            rw [pu_rng_out (by omega), hJ0, up2_ne (by decide)]
            exact (m4 o ho).2 s hs
      · intro a ha
        exact ⟨by rw [up2_a (by omega), up2_a (by omega), hWn 520 a (by omega), hJ0, up2_a (by omega)], rfl⟩
    · obtain ⟨a0, a1, a2, a3, a4, a5, a6, a7⟩ := aS_le hA (show B ≤ B + 1000 from by omega) hB
      refine ⟨a0, a1, a2, a3, a4, a5, a6, fun q hq hk => ?_⟩
      by_cases eq : q = p
      · simp only [eq, if_true]
        exact a1
      · simp only [eq, if_false] at hk ⊢
        exact a7 q hq hk
end PIC
