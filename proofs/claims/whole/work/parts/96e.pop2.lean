/-! populate: the reference, and both -/
set_option maxRecDepth 8192 in
theorem pm_forE {α β γ : Type} (F : Nat → α → Nat → Option β) (G : γ → Option β) (P : Nat → α → Prop) (Q : γ → Prop) (m : Nat) (hstep : ∀ n a i, i < m → P i a → ∃ a', F (n + 1) a i = F n a' (i + 1) ∧ P (i + 1) a') (hend : ∀ n a, P m a → ∃ g, F (n + 1) a m = G g ∧ Q g) : ∀ n i a, i ≤ m → m - i < n → P i a → ∃ g, F n a i = G g ∧ Q g := by
  intro n
  induction n with
  | zero => intro i a _ h; omega
  | succ n ih =>
    intro i a hi hn hP
    by_cases e : i = m
    · subst e
      exact hend n a hP
    · obtain ⟨a', h1, h2⟩ := hstep n a i (by omega) hP
      rw [h1]
      exact ih (i + 1) a' (by omega) (by omega) h2
set_option maxRecDepth 8192 in
theorem nI_nn {x : Int32} (h : ¬ x < 0) : ∃ k, k < 2 ^ 31 ∧ x = nI k := by
  rw [Int32.lt_iff_toInt_lt] at h
  have h2 : 0 ≤ x.toInt := by simpa using h
  have h3 := x.toInt_lt
  refine ⟨x.toInt.toNat, by omega, Int32.toInt_inj.mp ?_⟩
  rw [nI_toInt (by omega)]
  omega
section POP2
variable {I J : Nat → Nat → Int32} {L K : Nat → Nat → Int64} {r : Nat → Option Nat} {A : Nat → Nat → Nat} {n : Nat} {H : Nat → Nat → Nat → Nat} {t : Nat} {T : Nat → Nat} {P : Nat → Nat → Nat → Nat} {k : Nat → Bool} {B : Nat}
set_option maxRecDepth 8192 in
theorem r9_lowest (hN : pr_row (I 131) A) (w : pa_wf A) {q : Nat} (h : q < fb_ct (pa_al A) 40) : f_X9_lowest 130 (nI q) (pm I L r) = some (mI (pb_nth (pa_al A) (nI q)), pm I L r) := by
  have hle := fb_ct_le (pa_al A) 40
  obtain ⟨i, h1, h2, h3, h4, h5⟩ := pb_nth_ex h
  rw [h1, mI_s]
  have hloop := pm_for (fun F (a : Nat) j => f_X9_lowest_b4 F 130 (nI j) (nI a) (pm I L r)) (fun j a => a + fb_ct (pa_al A) j = q) (fun s => s = (nI i, pm I L r)) i ?_ ?_ hb_FU 0 q (by omega) (by unfold hb_FU; omega) rfl
  · obtain ⟨s, s1, s2⟩ := hloop
    unfold f_X9_lowest
    rw [s2] at s1
    exact s1
  · intro F a j hj hq
    right
    have h6 := h5 j hj
    rw [fb_ct_succ] at h6
    cases e : pa_al A j
    · refine ⟨a, ?_, ?_⟩
      · simp (disch := omega) only [f_X9_lowest_b4, f_X9_lowest_b16, f_X9_lowest_b30, plit, pO_130, r9_isObj hN w (show j < 40 from by omega), pbs, e, bIn, if_true, nI_add]
        rw [nI_dif0 (by omega), Nat.sub_zero]
      · rw [fb_ct_succ, e]
        simpa using hq
    · rw [e] at h6
      simp only [if_true] at h6
      refine ⟨a - 1, ?_, ?_⟩
      · simp (disch := omega) only [f_X9_lowest_b4, f_X9_lowest_b16, f_X9_lowest_b30, plit, pO_130, r9_isObj hN w (show j < 40 from by omega), pbs, e, bIn, Bool.true_eq_false, if_false, nI_add, pn_le]
        rw [if_neg (by omega), nI_dif0 (by omega)]
      · rw [fb_ct_succ, e]
        simp only [if_true]
        omega
  · intro F a hq
    have ha : a = 0 := by omega
    subst ha
    simp (disch := omega) only [f_X9_lowest_b4, plit, pO_130, r9_isObj hN w h2, pbs, h3, bIn, Bool.true_eq_false, if_false, pn_le, Nat.le_refl, if_true]
    exact hw_some.mpr rfl
set_option maxRecDepth 8192 in
theorem po_more {o m : Nat} {a : (Nat → Nat → Nat) × Nat} : ∀ d, m ≤ d → (∀ j, j ≤ d → (pm_fold (po_sl o) j a).1 o 2 = m) → pm_fold (po_sl o) d a = pm_fold (po_sl o) m a := by
  intro d
  induction d with
  | zero =>
    intro h _
    rw [show m = 0 from by omega]
  | succ d ih =>
    intro h hj
    by_cases e : m = d + 1
    · rw [e]
    · rw [← ih (by omega) (fun j h2 => hj j (by omega))]
      show po_sl o d (pm_fold (po_sl o) d a) = _
      unfold po_sl
      rw [if_neg]
      have := hj d (by omega)
      unfold po_sl at this
      omega
def po_fr (I J : Nat → Nat → Int32) (L K : Nat → Nat → Int64) : Prop := ∀ c, (c ≠ 131 → J c = I c) ∧ (c ≠ 130 → K c = L c)
/-! the reference fills the slots of a new object -/
set_option maxRecDepth 8192 in
theorem r9_fill {k55 : Nat → Int32 → Int32 → hb_M → Option (Int32 × hb_M)} {x2 x3 : Int32} {o N : Nat} {C : Nat → Bool} {a : (Nat → Nat → Nat) × Nat} (hN : pr_row (I 131) a.1) (hx : L 130 10 = lN a.2) (ho : o < 40) (hk : po_ok o N C a) (h4 : a.1 o 4 = 0) : ∃ g : (Nat → Nat → Int32) × (Nat → Nat → Int64), f_X9_populate_b138 k55 hb_FU 130 x2 x3 (nI o) (nI 0) (pm I L r) = k55 130 x2 (x3 + 1) (pm g.1 g.2 r) ∧ pr_row (g.1 131) (po_rt o (pm_fold (po_sl o) 8 a)).1 ∧ g.2 130 10 = lN (po_rt o (pm_fold (po_sl o) 8 a)).2 ∧ po_fr I g.1 L g.2 := by
  have hsls := po_sls_ok ho hk
  have h8 := pa_sl8 hk.1 ho hk.2.1
  have hmore : pm_fold (po_sl o) 8 a = pm_fold (po_sl o) (a.1 o 2) a := po_more 8 h8 (fun j hj => (hsls j hj).2.1)
  rw [hmore]
  refine pm_forE (fun F (b : (Nat → Nat → Int32) × (Nat → Nat → Int64)) i => f_X9_populate_b138 k55 F 130 x2 x3 (nI o) (nI i) (pm b.1 b.2 r)) (fun (g : (Nat → Nat → Int32) × (Nat → Nat → Int64)) => k55 130 x2 (x3 + 1) (pm g.1 g.2 r)) (fun i b => pr_row (b.1 131) (pm_fold (po_sl o) i a).1 ∧ b.2 130 10 = lN (pm_fold (po_sl o) i a).2 ∧ po_fr I b.1 L b.2) (fun g => pr_row (g.1 131) (po_rt o (pm_fold (po_sl o) (a.1 o 2) a)).1 ∧ g.2 130 10 = lN (po_rt o (pm_fold (po_sl o) (a.1 o 2) a)).2 ∧ po_fr I g.1 L g.2) (a.1 o 2) ?_ ?_ hb_FU 0 (I, L) (by omega) (by unfold hb_FU; omega) ⟨hN, hx, fun c => ⟨fun _ => rfl, fun _ => rfl⟩⟩
  · rintro F ⟨J, K⟩ i hi ⟨i1, i2, i3⟩
    simp only at i1 i2 i3
    obtain ⟨⟨k1, k2, k3, k4, k5⟩, k6, -⟩ := hsls i (by omega)
    obtain ⟨b, hb⟩ : ∃ b, b = pm_fold (po_sl o) i a := ⟨_, rfl⟩
    have hnx : pm_fold (po_sl o) (i + 1) a = po_sl o i b := by rw [hb]; rfl
    rw [hnx]
    rw [← hb] at i1 i2 k1 k2 k3 k4 k5 k6
    have e3 : pa_al b.1 o = true := by simp [pa_al, k2]
    have hs := (i1.2.2.2 o ho).1 2 (by decide)
    have hb3 := r9_draw (I := J) (r := r) i2 k3 (b := 3) (by decide) (by decide)
    have e : i < b.1 o 2 := by omega
    have r3 := rv_lt b.2 (b := 3) (by decide)
    unfold po_sl
    by_cases e2 : rv b.2 3 = 0
    · refine ⟨(J, up2 K 130 10 (lN (rn b.2))), ?_, ?_, ?_, fun c => ⟨(i3 c).1, fun h => by simp only [up2_a h]; exact (i3 c).2 h⟩⟩
      · simp (disch := omega) only [f_X9_populate_b138, f_X9_populate_b190, plit, pR_130_0, pbs, r9_at, nI_add, pA_131, hs, pn_le, pO_130, hb3, e2, if_true]
        rw [if_neg (by omega)]
      · simp only [if_pos e, if_pos e2]
        exact i1
      · simp only [if_pos e, if_pos e2, up2_eq]
    · have hpos : 0 < fb_ct (pa_al b.1) 40 := fb_ct_pos.mpr ⟨o, ho, e3⟩
      have hctl := fb_ct_le (pa_al b.1) 40
      have hbm := r9_draw (I := J) (L := up2 K 130 10 (lN (rn b.2))) (r := r) up2_eq (rn_lt b.2) hpos (show fb_ct (pa_al b.1) 40 < 2 ^ 31 from by omega)
      have hlo := r9_lowest (I := J) (L := up2 (up2 K 130 10 (lN (rn b.2))) 130 10 (lN (rn (rn b.2)))) (r := r) i1 k1 (rv_lt (rn b.2) hpos)
      obtain ⟨v, hv⟩ : ∃ v, v = pb_nth (pa_al b.1) (nI (rv (rn b.2) (fb_ct (pa_al b.1) 40))) := ⟨_, rfl⟩
      rw [← hv] at hlo
      refine ⟨(up2 J 131 (32 + 13 * o + 5 + i) (mI v), up2 (up2 K 130 10 (lN (rn b.2))) 130 10 (lN (rn (rn b.2)))), ?_, ?_, ?_, fun c => ⟨fun h => by simp only [up2_a h]; exact (i3 c).1 h, fun h => by simp only [up2_a h]; exact (i3 c).2 h⟩⟩
      · simp (disch := omega) only [f_X9_populate_b138, f_X9_populate_b190, plit, pR_130_0, pbs, r9_at, nI_add, pA_131, hs, pn_le, pn_eq, pO_130, hb3, e2, if_false, r9_many i1 k1, hbm, hlo, pS_131]
        rw [if_neg (by omega)]
      · simp only [if_pos e, if_neg e2, ← hv]
        exact pr_set i1 ho (by omega)
      · simp only [if_pos e, if_neg e2, up2_eq]
  · rintro F ⟨J, K⟩ ⟨i1, i2, i3⟩
    simp only at i1 i2 i3
    obtain ⟨⟨k1, k2, k3, k4, k5⟩, k6, k7⟩ := hsls (a.1 o 2) h8
    rw [h4] at k7
    obtain ⟨b, hb⟩ : ∃ b, b = pm_fold (po_sl o) (a.1 o 2) a := ⟨_, rfl⟩
    rw [← hb] at i1 i2 k1 k2 k3 k4 k5 k6 k7 ⊢
    have hs := (i1.2.2.2 o ho).1 2 (by decide)
    have hs4 := (i1.2.2.2 o ho).1 4 (by decide)
    rw [k7] at hs4
    rw [k6] at hs
    have hb5 := r9_draw (I := J) (r := r) i2 k3 (b := 5) (by decide) (by decide)
    have r5 := rv_lt b.2 (b := 5) (by decide)
    unfold po_rt
    by_cases e : rv b.2 5 = 0
    · have hb3 := r9_draw (I := J) (L := up2 K 130 10 (lN (rn b.2))) (r := r) up2_eq (rn_lt b.2) (b := 3) (by decide) (by decide)
      have r3 := rv_lt (rn b.2) (b := 3) (by decide)
      have hor := (pk_or (v := 0) (by decide) r3).1
      rw [Nat.zero_or] at hor
      simp only [plit] at hor
      refine ⟨(up2 J 131 (32 + 13 * o + 4) (nI (2 ^ rv (rn b.2) 3)), up2 (up2 K 130 10 (lN (rn b.2))) 130 10 (lN (rn (rn b.2)))), ?_, ?_, ?_, fun c => ⟨fun h => by simp only [up2_a h]; exact (i3 c).1 h, fun h => by simp only [up2_a h]; exact (i3 c).2 h⟩⟩
      · simp (disch := omega) only [f_X9_populate_b138, f_X9_populate_b226, plit, pR_130_0, pbs, r9_at, nI_add, pA_131, hs, pn_le, Nat.le_refl, if_true, pO_130, hb5, e, hs4, hb3]
        rw [hor]
        simp (disch := omega) only [pS_131, pbs]
      · simp only [if_pos e]
        exact pr_root i1 ho
      · simp only [if_pos e, up2_eq]
    · refine ⟨(J, up2 K 130 10 (lN (rn b.2))), ?_, ?_, ?_, fun c => ⟨(i3 c).1, fun h => by simp only [up2_a h]; exact (i3 c).2 h⟩⟩
      · simp (disch := omega) only [f_X9_populate_b138, f_X9_populate_b226, plit, pR_130_0, pbs, r9_at, nI_add, pA_131, hs, pn_le, Nat.le_refl, if_true, pO_130, hb5, pn_eq, e, if_false]
      · simp only [if_neg e]
        exact i1
      · simp only [if_neg e, up2_eq]
noncomputable def po_all (m : Nat) (a : (Nat → Nat → Nat) × Nat) : (Nat → Nat → Nat) × Nat := pm_fold (fun _ => po_one) m a
set_option maxRecDepth 8192 in
theorem po_all_s (m : Nat) (a : (Nat → Nat → Nat) × Nat) : po_all (m + 1) a = po_one (po_all m a) := rfl
set_option maxRecDepth 8192 in
theorem po_all_ok (w : pa_wf A) {x m : Nat} (hx : x < 2 ^ 31) (hf : fb_ct (pa_al A) 40 + m ≤ 40) (hn : A 40 1 + m < 2 ^ 30) : ∀ i, i ≤ m → pa_wf (po_all i (A, x)).1 ∧ (po_all i (A, x)).2 < 2 ^ 31 ∧ (po_all i (A, x)).1 40 1 = A 40 1 + i ∧ fb_ct (pa_al (po_all i (A, x)).1) 40 = fb_ct (pa_al A) 40 + i := by
  intro i
  induction i with
  | zero => exact fun _ => ⟨w, hx, rfl, rfl⟩
  | succ i ih =>
    intro hi
    obtain ⟨h1, h2, h3, h4⟩ := ih (by omega)
    rw [po_all_s]
    obtain ⟨b, hb⟩ : ∃ b, b = po_all i (A, x) := ⟨_, rfl⟩
    rw [← hb] at h1 h2 h3 h4 ⊢
    obtain ⟨g1, g2, g3, g4⟩ := po_one_ok (x := b.2) h1 h2 (by omega) (by omega)
    rw [show (b.1, b.2) = b from rfl] at g1 g2 g3 g4
    exact ⟨g1, g2, by omega, by omega⟩
/-! the class adds them all -/
set_option maxRecDepth 8192 in
theorem x8_adds (hC : cS I L r A n H t T P k B) (w : pa_wf A) (hA0 : A 40 1 ≤ B) (hB : B + 1000 < 2 ^ 29) {x m : Nat} (hx : L 105 0 = lN x) (hx2 : x < 2 ^ 31) (hf : fb_ct (pa_al A) 40 + m ≤ 40) : ∃ J K, f_X8_populate_b66 hb_FU 0 (nI m) (nI 0) (pm I L r) = some (.inr (nI (fb_ct (pa_al A) 40 + m)), pm J K r) ∧ cS J K r (po_all m (A, x)).1 n H t T P k (B + 1000) ∧ ∀ a, 11 < a → J a = I a ∧ (a ≠ 105 → K a = L a) := by
  have hok := po_all_ok w hx2 hf (by omega)
  have hloop := pm_for (fun F (a : (Nat → Nat → Int32) × (Nat → Nat → Int64)) i => f_X8_populate_b66 F 0 (nI m) (nI i) (pm a.1 a.2 r)) (fun i a => cS a.1 a.2 r (po_all i (A, x)).1 n H t T P k (B + 10 * i) ∧ a.2 105 0 = lN (po_all i (A, x)).2 ∧ ∀ c, 11 < c → a.1 c = I c ∧ (c ≠ 105 → a.2 c = L c)) (fun s => ∃ J K, s = (.inr (nI (fb_ct (pa_al A) 40 + m)), pm J K r) ∧ cS J K r (po_all m (A, x)).1 n H t T P k (B + 1000) ∧ ∀ c, 11 < c → J c = I c ∧ (c ≠ 105 → K c = L c)) m ?_ ?_ hb_FU 0 (I, L) (by omega) (by unfold hb_FU; omega) ⟨hC, hx, fun c _ => ⟨rfl, fun _ => rfl⟩⟩
  · obtain ⟨s, s1, J, K, s2, s3, s4⟩ := hloop
    rw [s2] at s1
    exact ⟨J, K, s1, s3, s4⟩
  · rintro F ⟨J, K⟩ i hi ⟨i1, i2, i3⟩
    simp only at i1 i2 i3
    right
    obtain ⟨h1, h2, h3, h4⟩ := hok i (by omega)
    rw [po_all_s]
    obtain ⟨b, hb⟩ : ∃ b, b = po_all i (A, x) := ⟨_, rfl⟩
    rw [← hb] at h1 h2 h3 h4 i1 i2 ⊢
    obtain ⟨J2, K2, g1, g2, g3, g4⟩ := x2_addTo i1 h1 (by omega) (by omega) i2 h2 (by omega)
    rw [show (b.1, b.2) = b from rfl] at g2 g3
    refine ⟨(J2, K2), ?_, cS_le g2 (by omega), g3, fun c hc => ⟨(g4 c hc).1.trans (i3 c hc).1, fun h => ((g4 c hc).2 h).trans ((i3 c hc).2 h)⟩⟩
    simp (disch := omega) only [f_X8_populate_b66, plit, pn_le, pR_0_6, pR_0_0, pbs, pO_105, g1, nI_add]
    rw [if_neg (by omega)]
  · rintro F ⟨J, K⟩ ⟨i1, i2, i3⟩
    simp only at i1 i2 i3
    obtain ⟨h1, h2, h3, h4⟩ := hok m (Nat.le_refl m)
    simp (disch := omega) only [f_X8_populate_b66, plit, pn_le, Nat.le_refl, if_true, pR_0_0, pbs, pO_h hp_1, x4_objectCount hp_1 i1.1 h1, h4]
    exact hw_some.mpr ⟨J, K, rfl, cS_le i1 (by omega), i3⟩
/-! the reference adds them all -/
set_option maxRecDepth 8192 in
theorem r9_adds (hN : pr_row (I 131) A) (w : pa_wf A) (hA0 : A 40 1 + 1000 < 2 ^ 29) {x m : Nat} (hx : L 130 10 = lN x) (hx2 : x < 2 ^ 31) (hf : fb_ct (pa_al A) 40 + m ≤ 40) : ∃ J K, f_X9_populate_b55 hb_FU 130 (nI m) (nI 0) (pm I L r) = some (nI (fb_ct (pa_al A) 40 + m), pm J K r) ∧ pr_row (J 131) (po_all m (A, x)).1 ∧ po_fr I J L K := by
  have hok := po_all_ok w hx2 hf (by omega)
  have hloop := pm_for (fun F (a : (Nat → Nat → Int32) × (Nat → Nat → Int64)) i => f_X9_populate_b55 F 130 (nI m) (nI i) (pm a.1 a.2 r)) (fun i a => pr_row (a.1 131) (po_all i (A, x)).1 ∧ a.2 130 10 = lN (po_all i (A, x)).2 ∧ po_fr I a.1 L a.2) (fun s => ∃ J K, s = (nI (fb_ct (pa_al A) 40 + m), pm J K r) ∧ pr_row (J 131) (po_all m (A, x)).1 ∧ po_fr I J L K) m ?_ ?_ hb_FU 0 (I, L) (by omega) (by unfold hb_FU; omega) ⟨hN, hx, fun c => ⟨fun _ => rfl, fun _ => rfl⟩⟩
  · obtain ⟨s, s1, J, K, s2, s3, s4⟩ := hloop
    rw [s2] at s1
    exact ⟨J, K, s1, s3, s4⟩
  · rintro F ⟨J, K⟩ i hi ⟨i1, i2, i3⟩
    simp only at i1 i2 i3
    right
    obtain ⟨h1, h2, h3, h4⟩ := hok i (by omega)
    rw [po_all_s]
    obtain ⟨b, hb⟩ : ∃ b, b = po_all i (A, x) := ⟨_, rfl⟩
    rw [← hb] at h1 h2 h3 h4 i1 i2 ⊢
    obtain ⟨o1, o2, o3⟩ := po_lo_ex (A := b.1) (by omega)
    have hone : po_one b = po_rt (po_lo b.1) (pm_fold (po_sl (po_lo b.1)) 8 (po_mk b.1 (po_lo b.1) b.2)) := by
      unfold po_one
      rfl
    rw [hone]
    obtain ⟨o, ho⟩ : ∃ o, o = po_lo b.1 := ⟨_, rfl⟩
    rw [← ho] at o1 o2 o3 ⊢
    have c1 := pa_cc1 h1
    have c10 := pa_cc10 h1
    have hok2 := po_mk_ok2 h1 (x := b.2) o1 o2 (by omega)
    -- what is made
    have hmk : ∃ J1 K1, (∀ (y : Int32), f_X9_populate_b55 (F + 1) 130 (nI m) (nI i) (pm J K r) = f_X9_populate_b138 (f_X9_populate_b55 F) hb_FU 130 (nI m) (nI i) (nI o) (nI 0) (pm J1 K1 r)) ∧ pr_row (J1 131) (po_mk b.1 o b.2).1 ∧ K1 130 10 = lN (po_mk b.1 o b.2).2 ∧ po_fr J J1 K K1 ∧ (po_mk b.1 o b.2).1 o 4 = 0 := by
      have hb4 := r9_draw (I := J) (r := r) i2 h2 (b := 4) (by decide) (by decide)
      have hu : up2 K 130 10 (lN (rn b.2)) 130 10 = lN (rn b.2) := up2_eq
      have r4 := rv_lt b.2 (b := 4) (by decide)
      have hnm : ¬ m ≤ i := by omega
      have h4z : ∀ g s, pa_new b.1 o g s o 4 = 0 := fun g s => by simp [pa_new]
      unfold po_mk
      by_cases e1 : rv b.2 4 = 2
      · have r9 := rv_lt (rn b.2) (b := 9) (by decide)
        have hb9 := r9_draw (I := J) (r := r) hu (rn_lt b.2) (show 0 < 9 from by decide) (show 9 < 2 ^ 31 from by decide)
        simp only [if_pos e1]
        refine ⟨pv_new J o (nI (b.1 40 1)) 10 (rv (rn b.2) 9), up2 (up2 K 130 10 (lN (rn b.2))) 130 10 (lN (rn (rn b.2))), fun _ => ?_, pr_new i1 o1, up2_eq, fun c => ⟨fun h => pv_new_ne h, fun h => by rw [up2_a h, up2_a h]⟩, h4z _ _⟩
        simp (disch := omega) only [f_X9_populate_b55, f_X9_populate_b133, f_X9_populate_b135, plit, pn_le, hnm, if_false, pO_130, hb4, pbs, e1, Nat.le_refl, if_true, hb9, r9_creates i1 h1 o1 o2 o3]
      · simp only [if_neg e1]
        by_cases e2 : rv b.2 4 = 3
        · simp only [if_pos e2]
          refine ⟨pv_new J o (nI (b.1 40 1)) 11 1, up2 K 130 10 (lN (rn b.2)), fun _ => ?_, pr_new i1 o1, up2_eq, fun c => ⟨fun h => pv_new_ne h, fun h => by rw [up2_a h]⟩, h4z _ _⟩
          have e32 : ¬ (3 : Nat) = 2 := by decide
          have e23 : (2 : Nat) ≤ 3 := by decide
          simp (disch := omega) only [f_X9_populate_b55, f_X9_populate_b133, f_X9_populate_b135, plit, pn_le, hnm, if_false, pO_130, hb4, pbs, e2, e23, pn_eq, e32, if_true, r9_creates i1 h1 o1 o2 o3]
        · simp only [if_neg e2]
          have rc := rv_lt (rn b.2) (b := b.1 40 0) (by omega)
          have hbc := r9_draw (I := J) (r := r) hu (rn_lt b.2) (show 0 < b.1 40 0 from by omega) (show b.1 40 0 < 2 ^ 31 from by omega)
          have e4 : ¬ 2 ≤ rv b.2 4 := by omega
          refine ⟨pv_new J o (nI (b.1 40 1)) (rv (rn b.2) (b.1 40 0)) (pa_fo b.1 (rv (rn b.2) (b.1 40 0))), up2 (up2 K 130 10 (lN (rn b.2))) 130 10 (lN (rn (rn b.2))), fun _ => ?_, pr_new i1 o1, up2_eq, fun c => ⟨fun h => pv_new_ne h, fun h => by rw [up2_a h, up2_a h]⟩, h4z _ _⟩
          simp (disch := omega) only [f_X9_populate_b55, f_X9_populate_b135, plit, pn_le, hnm, if_false, pO_130, hb4, pbs, e4, pR_130_0, pA_131, i1.1, hbc, r9_fieldsOf i1 h1 rc, r9_creates i1 h1 o1 o2 o3]
    obtain ⟨J1, K1, g1, g2, g3, g4, g5⟩ := hmk
    obtain ⟨⟨J2, K2⟩, f1, f2, f3, f4⟩ := r9_fill (k55 := f_X9_populate_b55 F) (x2 := nI m) (x3 := nI i) (r := r) g2 g3 o1 hok2 g5
    refine ⟨(J2, K2), ?_, f2, f3, fun c => ⟨fun h => ((f4 c).1 h).trans (((g4 c).1 h).trans ((i3 c).1 h)), fun h => ((f4 c).2 h).trans (((g4 c).2 h).trans ((i3 c).2 h))⟩⟩
    rw [g1 0, f1]
    simp only [plit, nI_add]
  · rintro F ⟨J, K⟩ ⟨i1, i2, i3⟩
    simp only at i1 i2 i3
    obtain ⟨h1, h2, h3, h4⟩ := hok m (Nat.le_refl m)
    simp (disch := omega) only [f_X9_populate_b55, plit, pn_le, Nat.le_refl, if_true, pO_130, r9_many i1 h1, pbs, h4]
    exact hw_some.mpr ⟨J, K, rfl, i1, i3⟩
set_option maxRecDepth 8192 in
theorem ok_populate (x y : Int32) (hC : cS I L r A n H t T P k B) (hA : aS A n H t T P k B) (hB : B + 1000 < 2 ^ 29) : opK (fun σ => f_L_populate 0 x y 148 σ) (fun σ => f_X9_populate 130 x y σ) Int32.toInt64 I L r A n H t T P k B := by
  have w := hA.2.1
  have hA0 := hA.2.2.1
  have hB0 := hA.1
  have hct := fb_ct_le (pa_al A) 40
  by_cases hbad : x < 0 ∨ y < nI 1 ∨ nI 40 < y
  · have hX : f_X8_populate 0 x y (pm I L r) = some (.inl (pz_E 2), pm I L r) := by
      have h2 : f_X8_populate 0 x y (pm I L r) = f_X8_populate_b20 0 x y (nI 2) (pm I L r) := by
        unfold f_X8_populate f_X8_populate_b19
        by_cases e1 : x < 0
        · rw [if_pos e1]; rfl
        · rw [if_neg e1]
          by_cases e2 : y < nI 1
          · rw [if_pos (show y < (1 : Int32) from e2)]; rfl
          · rw [if_neg (show ¬ y < (1 : Int32) from e2)]
            have e3 : nI 40 < y := by
              rcases hbad with h | h | h
              · exact absurd h e1
              · exact absurd h e2
              · exact h
            rw [if_pos (show (40 : Int32) < y from e3)]; rfl
      rw [h2]
      unfold f_X8_populate_b20
      rw [pz_xb (by decide), if_neg (by decide)]
    refine opK_rf (nI 0) (c := 1) (by decide) (by decide) ?_ ?_ hC hA hB
    · show f_L_populate 0 x y 148 (pm I L r) = _
      unfold f_L_populate
      rw [xc_ex hX]
      exact if_pos rfl
    · intro J K r' hJ
      show f_X9_populate 130 x y (pm J K r') = _
      have h2 : f_X9_populate 130 x y (pm J K r') = f_X9_populate_b35 130 x y 130 (nI 1) (pm J K r') := by
        unfold f_X9_populate f_X9_populate_b15
        by_cases e1 : x < 0
        · rw [if_pos e1]; rfl
        · rw [if_neg e1]
          have e3 : ¬ (¬ y < (1 : Int32) ∧ ¬ (40 : Int32) < y) := by
            rcases hbad with h | h | h
            · exact absurd h e1
            · exact fun h2 => h2.1 h
            · exact fun h2 => h2.2 h
          simp only [r9_within, pbs, decide_eq_false e3, bIn, if_true]
          rfl
      rw [h2]
      unfold f_X9_populate_b35
      simp only [pO_130, r9_rf (show 1 ≤ 100 from by decide), pbs, plit]
      rfl
  · have e1 : ¬ x < 0 := fun h => hbad (Or.inl h)
    have e2 : ¬ y < nI 1 := fun h => hbad (Or.inr (Or.inl h))
    have e3 : ¬ nI 40 < y := fun h => hbad (Or.inr (Or.inr h))
    obtain ⟨a, ha, rfl⟩ := nI_nn e1
    obtain ⟨m, hm, rfl⟩ := nI_nn (show ¬ y < 0 from fun h => e2 (Int32.lt_trans h (by decide)))
    rw [pn_lt (by omega) (by omega)] at e2 e3
    have e4 : ¬ (nI m < (1 : Int32)) := by
      rw [show (1 : Int32) = nI 1 from rfl, pn_lt (by omega) (by omega)]
      exact e2
    have e5 : ¬ ((40 : Int32) < nI m) := by
      rw [show (40 : Int32) = nI 40 from rfl, pn_lt (by omega) (by omega)]
      exact e3
    have hXa : f_X8_populate 0 (nI a) (nI m) (pm I L r) = f_X8_populate_b42 0 (nI a) (nI m) (nI (if fb_ct (pa_al A) 40 + m ≤ 40 then 0 else 3)) (pm I L r) := by
      unfold f_X8_populate
      rw [if_neg e1, if_neg e4, if_neg e5]
      unfold f_X8_populate_b20
      rw [show (0 : Int32) = nI 0 from rfl, pz_xb (by decide), if_pos rfl]
      simp (disch := omega) only [pR_0_0, pbs, pO_h hp_1, x4_objectCount hp_1 hC.1 w, nI_add, plit, pn_lt]
      by_cases e : fb_ct (pa_al A) 40 + m ≤ 40
      · rw [if_neg (by omega), if_pos e]
      · rw [if_pos (by omega), if_neg e]
    have hRa : ∀ (J : Nat → Nat → Int32) (K : Nat → Nat → Int64) (r' : Nat → Option Nat), mS J A n H t T P k → f_X9_populate 130 (nI a) (nI m) (pm J K r') = f_X9_populate_b35 130 (nI a) (nI m) 130 (nI (if fb_ct (pa_al A) 40 + m ≤ 40 then 0 else 2)) (pm J K r') := by
      intro J K r' hJ
      unfold f_X9_populate
      rw [if_neg e1, r9_within]
      rw [decide_eq_true (show ¬ nI m < (1 : Int32) ∧ ¬ (40 : Int32) < nI m from ⟨e4, e5⟩)]
      simp (disch := omega) only [pbs, bIn, Bool.true_eq_false, if_false, pO_130, r9_many hJ.1 w, nI_add, plit, pn_le]
      by_cases e : fb_ct (pa_al A) 40 + m ≤ 40
      · rw [if_pos e, if_pos e]
      · rw [if_neg e, if_neg e]
    by_cases e : fb_ct (pa_al A) 40 + m ≤ 40
    · rw [if_pos e] at hXa
      simp only [if_pos e] at hRa
      have hz : up2 L 105 0 (lN a) 105 0 = lN a := up2_eq
      refine opK_yes (A' := (po_all m (A, a)).1) (n' := hS_n n) (H' := hS_H n H A) (t' := t) (T' := T) (P' := P) (k' := k) (nI (fb_ct (pa_al A) 40 + m)) ?_ ?_ ?_
      · obtain ⟨J, r', s1, s2, s3⟩ := x5_save hC w
        obtain ⟨J2, K2, g1, g2, g3⟩ := x8_adds (cS_L (K := up2 L 105 0 (lN a)) s2 (fun c _ _ => up2_a (by omega))) w hA0 hB hz ha e
        refine ⟨J2, K2, r', ?_, g2, fun c c1 c2 => ⟨by rw [(g3 c (by omega)).1, s3 c (by omega)], by rw [(g3 c (by omega)).2 (by omega), up2_a (by omega)]⟩⟩
        show f_L_populate 0 (nI a) (nI m) 148 (pm I L r) = _
        unfold f_L_populate
        refine xc_in ?_
        rw [hXa]
        unfold f_X8_populate_b42
        rw [pz_xb (by decide), if_pos rfl]
        simp only [pR_0_2, pR_0_0, pbs, pO_29, s1, pR_0_6, pO_105, f_X2_begin, pP_105_0, nI_l ha, plit, g1]
      · intro J K r' hJ
        obtain ⟨J1, s1, s2, s3, s4, s5⟩ := r9_saves (L := K) (r := r') (mS_fr hJ (mK_rf (x := nI 0))) hA.2.2.2.1
        obtain ⟨J2, K2, g1, g2, g3⟩ := r9_adds (I := J1) (L := up2 K 130 10 (lN a)) (r := r') s2.1 w (by omega) up2_eq ha e
        refine ⟨J2, K2, ?_, ?_, mS_now s2 g2 (fun c hc => (g3 c).1 hc), fun c hc => ⟨?_, ?_⟩⟩
        · show f_X9_populate 130 (nI a) (nI m) (pm J K r') = _
          rw [hRa J K r' hJ]
          unfold f_X9_populate_b35
          simp only [pO_130, r9_rf (show 0 ≤ 100 from by decide), pbs, plit, ne_eq, not_true, decide_false, bIn, if_true, s1, pP_130_10, nI_l ha, g1]
        · rw [(g3 130).1 (by decide), s4 4 (by decide), up2_eq]
        · rw [(g3 c).1 (by omega), (s3 c hc).1, up2_a (by omega)]
        · rw [(g3 c).2 (by omega), up2_a (by omega)]
      · obtain ⟨h1, h2, h3, h4⟩ := po_all_ok (x := a) w ha e (by omega) m (Nat.le_refl m)
        exact aS_heap (aS_save hA) h1 (by omega) hB
    · rw [if_neg e] at hXa
      simp only [if_neg e] at hRa
      unfold f_X8_populate_b42 at hXa
      rw [pz_xb (by decide), if_neg (by decide)] at hXa
      refine opK_rf (nI 0) (c := 2) (by decide) (by decide) ?_ ?_ hC hA hB
      · show f_L_populate 0 (nI a) (nI m) 148 (pm I L r) = _
        unfold f_L_populate
        rw [xc_ex hXa]
        exact (if_neg pe_32).trans (if_pos rfl)
      · intro J K r' hJ
        show f_X9_populate 130 (nI a) (nI m) (pm J K r') = _
        rw [hRa J K r' hJ]
        unfold f_X9_populate_b35
        simp only [pO_130, r9_rf (show 2 ≤ 100 from by decide), pbs, plit]
        rfl
end POP2
