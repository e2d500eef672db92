/-! groups, suspects, the accumulation point -/
set_option maxRecDepth 8192 in
theorem lg_ltE {x y : Int64} : (lg_cmp x y < nI 0) = (x < y) := by
  unfold lg_cmp
  by_cases h : x > y
  · rw [if_pos h]
    refine propext ⟨fun h2 => absurd h2 (by decide), fun h2 => ?_⟩
    rw [gt_iff_lt, fa_lt64] at h
    rw [fa_lt64] at h2
    omega
  · rw [if_neg h]
    by_cases e : x = y
    · rw [if_pos e]
      refine propext ⟨fun h2 => absurd h2 (by decide), fun h2 => ?_⟩
      rw [e] at h2
      exact absurd h2 (fun h => Int64.lt_irrefl h)
    · rw [if_neg e]
      refine propext ⟨fun _ => ?_, fun _ => by decide⟩
      rw [gt_iff_lt, fa_lt64] at h
      rw [fa_eq64] at e
      rw [fa_lt64]
      omega
set_option maxRecDepth 8192 in
theorem lN_ltE {a b : Nat} (ha : a < 2 ^ 31) (hb : b < 2 ^ 31) : (lN a < lN b) = (a < b) := propext (lN_lt ha hb)
set_option maxRecDepth 8192 in
theorem lN_100 : (100 : Int64) = lN 100 := rfl
def pa_grp (A : Nat → Nat → Nat) (g : Nat) (b : Bool) (o : Nat) : Bool := pa_al A o && (decide (A o 1 = g) || (b && pa_below A (A o 1) g))
set_option maxRecDepth 8192 in
theorem pa_bl_lt {A : Nat → Nat → Nat} (w : pa_wf A) {t : Nat} : ∀ n k, k ≤ A 40 0 → pa_bl A n k t = true → t < A 40 0
  | 0, _, _, h => by cases h
  | _ + 1, 0, _, h => by cases h
  | n + 1, k + 1, hk, h => by
    have hs := pa_sup w (c := k) (by omega)
    have h : (decide (k = t) || pa_bl A n (A 41 k) t) = true := h
    simp only [Bool.or_eq_true, decide_eq_true_eq] at h
    rcases h with h | h
    · omega
    · exact pa_bl_lt w n _ (by omega) h
set_option maxRecDepth 8192 in
theorem pa_below_no {A : Nat → Nat → Nat} (w : pa_wf A) {c t : Nat} (h : 10 ≤ c ∨ 10 ≤ t) : pa_below A c t = false := by
  have h10 := pa_cc10 w
  unfold pa_below
  by_cases e : c < A 40 0
  · cases e2 : pa_bl A 11 (c + 1) t
    · simp
    · have := pa_bl_lt w 11 (c + 1) (by omega) e2
      omega
  · simp [e]
set_option maxRecDepth 8192 in
theorem pi_im_spec {D : Nat → Nat → Bool} {o n q : Nat} (h : pi_im D o n = q + 1) : D o q = true ∧ fb_ct (D q) 40 + 1 = fb_ct (D o) 40 := by
  have key := pm_fold_inv (fun x acc => if (D o x && decide (fb_ct (D x) 40 + 1 = fb_ct (D o) 40)) = true then x + 1 else acc) (fun _ a => ∀ q, a = q + 1 → D o q = true ∧ fb_ct (D q) 40 + 1 = fb_ct (D o) 40) n 0 (fun q h => by omega) (by
    intro i b hi hb q hq
    by_cases e : (D o i && decide (fb_ct (D i) 40 + 1 = fb_ct (D o) 40)) = true
    · rw [if_pos e] at hq
      have : i = q := by omega
      subst this
      simp only [Bool.and_eq_true, decide_eq_true_eq] at e
      exact e
    · rw [if_neg e] at hq
      exact hb q hq)
  exact key q h
section SUS
variable {I J : Nat → Nat → Int32} {L K : Nat → Nat → Int64} {r : Nat → Option Nat} {A : Nat → Nat → Nat} {n : Nat} {H : Nat → Nat → Nat → Nat} {t : Nat} {T : Nat → Nat} {P : Nat → Nat → Nat → Nat} {k : Nat → Bool} {B : Nat}
noncomputable def px_b4 (A : Nat → Nat → Nat) (b o : Nat) : Bool := decide (pd_rt A o < pd_rt A b) || (decide (pd_rt A b = pd_rt A o) && decide (b < o))
set_option maxRecDepth 8192 in
theorem b4_iff {b o : Nat} : px_b4 A b o = true ↔ (pd_rt A o < pd_rt A b ∨ (pd_rt A b = pd_rt A o ∧ b < o)) := by
  unfold px_b4
  simp only [Bool.or_eq_true, Bool.and_eq_true, decide_eq_true_eq]
set_option maxRecDepth 8192 in
theorem b4_tr {a b c : Nat} (h1 : px_b4 A a b = true) (h2 : px_b4 A b c = true) : px_b4 A a c = true := by
  rw [b4_iff] at h1 h2 ⊢
  omega
set_option maxRecDepth 8192 in
theorem b4_irr {a : Nat} : px_b4 A a a = false := by
  cases e : px_b4 A a a
  · rfl
  · rw [b4_iff] at e
    omega
set_option maxRecDepth 8192 in
theorem b4_tot {a b : Nat} (h : a ≠ b) : px_b4 A a b = true ∨ px_b4 A b a = true := by
  rw [b4_iff, b4_iff]
  omega
set_option maxRecDepth 8192 in
theorem px_gr_spec (A : Nat → Nat → Nat) (c : Nat → Bool) : ∀ n, (px_gr A c n = 0 → ∀ x, x < n → c x = false) ∧ ∀ q, px_gr A c n = q + 1 → q < n ∧ c q = true ∧ ∀ x, x < n → c x = true → x ≠ q → px_b4 A q x = true := by
  intro n
  induction n with
  | zero => exact ⟨fun _ x h => by omega, fun q h => by cases h⟩
  | succ n ih =>
    have hs : px_gr A c (n + 1) = if (c n && (decide (px_gr A c n = 0) || decide (pd_rt A (px_gr A c n - 1) < pd_rt A n))) = true then n + 1 else px_gr A c n := rfl
    rw [hs]
    by_cases e : (c n && (decide (px_gr A c n = 0) || decide (pd_rt A (px_gr A c n - 1) < pd_rt A n))) = true
    · rw [if_pos e]
      simp only [Bool.and_eq_true, Bool.or_eq_true, decide_eq_true_eq] at e
      refine ⟨fun h => by omega, fun q hq => ?_⟩
      have : n = q := by omega
      subst this
      refine ⟨by omega, e.1, fun x hx hcx hne => ?_⟩
      rcases e.2 with e0 | e1
      · have := ih.1 e0 x (by omega)
        rw [hcx] at this
        cases this
      · by_cases e0 : px_gr A c n = 0
        · have := ih.1 e0 x (by omega)
          rw [hcx] at this
          cases this
        · obtain ⟨m, hm⟩ : ∃ m, px_gr A c n = m + 1 := ⟨px_gr A c n - 1, by omega⟩
          obtain ⟨g1, g2, g3⟩ := ih.2 m hm
          rw [hm, Nat.add_sub_cancel] at e1
          rw [b4_iff]
          by_cases ex : x = m
          · subst ex
            omega
          · have := g3 x (by omega) hcx ex
            rw [b4_iff] at this
            omega
    · rw [if_neg e]
      simp only [Bool.and_eq_true, Bool.or_eq_true, decide_eq_true_eq] at e
      refine ⟨fun h x hx => ?_, fun q hq => ?_⟩
      · by_cases ex : x = n
        · subst ex
          cases ec : c x
          · rfl
          · exact absurd ⟨ec, Or.inl h⟩ e
        · exact ih.1 h x (by omega)
      · obtain ⟨g1, g2, g3⟩ := ih.2 q hq
        refine ⟨by omega, g2, fun x hx hcx hne => ?_⟩
        by_cases ex : x = n
        · subst ex
          have : ¬ pd_rt A q < pd_rt A x := fun h => e ⟨hcx, Or.inr (by rw [hq, Nat.add_sub_cancel]; exact h)⟩
          rw [b4_iff]
          omega
        · exact g3 x (by omega) hcx hne
/-- how many are ahead -/
noncomputable def px_ah (A : Nat → Nat → Nat) (s : Nat → Bool) (o : Nat) : Nat := fb_ct (fun b => px_b4 A b o && s b) 40
set_option maxRecDepth 8192 in
theorem ah_lt {s : Nat → Bool} {o q : Nat} (ho : o < 40) (hs : s o = true) (h : px_b4 A o q = true) : px_ah A s o < px_ah A s q := by
  unfold px_ah
  refine pq_strict (p := fun b => px_b4 A b q && s b) (h := fun b => px_b4 A b o && s b) (j := o) (fun b _ hb => ?_) ho (by simp [h, hs]) (by simp [b4_irr])
  simp only [Bool.and_eq_true] at hb ⊢
  exact ⟨b4_tr hb.1 h, hb.2⟩
set_option maxRecDepth 8192 in
theorem ah_one {s : Nat → Bool} {o q : Nat} (ho : o < 40) (hq : q < 40) (hs : s o = true) (hs2 : s q = true) (h : px_ah A s o = px_ah A s q) : o = q := by
  apply Classical.byContradiction
  intro hne
  rcases b4_tot (A := A) hne with h1 | h1
  · have := ah_lt ho hs h1
    omega
  · have := ah_lt hq hs2 h1
    omega
set_option maxRecDepth 8192 in
theorem ah_ct {s : Nat → Bool} {o : Nat} (ho : o < 40) (hs : s o = true) : px_ah A s o < fb_ct s 40 := by
  unfold px_ah
  refine pq_strict (p := s) (h := fun b => px_b4 A b o && s b) (j := o) (fun b _ hb => ?_) ho hs (by simp [b4_irr])
  simp only [Bool.and_eq_true] at hb
  exact hb.2
/-- taken away one by one, the greatest first -/
noncomputable def px_rm (A : Nat → Nat → Nat) (s : Nat → Bool) : Nat → Nat → Bool
  | 0 => s
  | n + 1 => fun o => px_rm A s n o && !decide (px_gr A (px_rm A s n) 40 = o + 1)
set_option maxRecDepth 8192 in
theorem rm_inv (A : Nat → Nat → Nat) (s : Nat → Bool) : ∀ n, n ≤ fb_ct s 40 → fb_ct (px_rm A s n) 40 + n = fb_ct s 40 ∧ (∀ o, px_rm A s n o = true → s o = true) ∧ ∀ b o, b < 40 → o < 40 → s b = true → px_rm A s n b = false → px_rm A s n o = true → px_b4 A b o = true := by
  intro n
  induction n with
  | zero => exact fun _ => ⟨rfl, fun _ h => h, fun b o _ _ h1 h2 => by
      have h2 : s b = false := h2
      rw [h1] at h2
      cases h2⟩
  | succ n ih =>
    intro hn
    obtain ⟨i1, i2, i3⟩ := ih (by omega)
    have hpos : 0 < fb_ct (px_rm A s n) 40 := by omega
    obtain ⟨g1, g2⟩ := px_gr_spec A (px_rm A s n) 40
    cases e : px_gr A (px_rm A s n) 40 with
    | zero =>
      have := fb_ct_zero.mpr (g1 e)
      omega
    | succ m =>
      obtain ⟨m1, m2, m3⟩ := g2 m e
      have hval : ∀ o, px_rm A s (n + 1) o = (px_rm A s n o && !decide (m = o)) := fun o => by
        show (px_rm A s n o && !decide (px_gr A (px_rm A s n) 40 = o + 1)) = _
        rw [e]
        congr 2
        exact decide_eq_decide.mpr ⟨fun _ => by omega, fun _ => by omega⟩
      refine ⟨?_, ?_, ?_⟩
      · have hc : fb_ct (px_rm A s (n + 1)) 40 = fb_ct (fun k => if k = m then false else px_rm A s n k) 40 := fb_ct_cong (fun k _ => by
          rw [hval k]
          by_cases ek : k = m
          · rw [if_pos ek, ek]
            simp
          · rw [if_neg ek]
            have : ¬ m = k := fun h => ek h.symm
            simp [this])
        have hu := fb_ct_upd (px_rm A s n) false m1
        rw [m2] at hu
        rw [hc]
        simp only [if_true, Bool.false_eq_true, if_false, Nat.add_zero] at hu
        omega
      · intro o ho
        rw [hval o] at ho
        simp only [Bool.and_eq_true] at ho
        exact i2 o ho.1
      · intro b o hb ho h1 h2 h3
        rw [hval] at h2 h3
        simp only [Bool.and_eq_true, Bool.not_eq_true', decide_eq_false_iff_not] at h3
        by_cases eb : px_rm A s n b = true
        · have : m = b := by
            rw [eb] at h2
            simpa using h2
          subst this
          exact m3 o ho h3.1 (fun h => h3.2 h.symm)
        · exact i3 b o hb ho h1 (by simpa using eb) h3.1
set_option maxRecDepth 8192 in
theorem rm_ah (A : Nat → Nat → Nat) (s : Nat → Bool) {n : Nat} (hn : n < fb_ct s 40) : ∃ m, px_gr A (px_rm A s n) 40 = m + 1 ∧ m < 40 ∧ s m = true ∧ px_ah A s m = n := by
  obtain ⟨i1, i2, i3⟩ := rm_inv A s n (by omega)
  obtain ⟨g1, g2⟩ := px_gr_spec A (px_rm A s n) 40
  cases e : px_gr A (px_rm A s n) 40 with
  | zero =>
    have := fb_ct_zero.mpr (g1 e)
    omega
  | succ m =>
    obtain ⟨m1, m2, m3⟩ := g2 m e
    refine ⟨m, rfl, m1, i2 m m2, ?_⟩
    have hc : px_ah A s m = fb_ct (fun b => s b && !px_rm A s n b) 40 := fb_ct_cong (fun b hb => by
      cases er : px_rm A s n b
      · cases es : s b
        · simp
        · rw [i3 b m hb m1 es er m2]
          rfl
      · by_cases eb : b = m
        · subst eb
          simp [b4_irr]
        · have h1 := m3 b hb er eb
          have : px_b4 A b m = false := by
            cases e9 : px_b4 A b m
            · rfl
            · have := b4_tr e9 h1
              rw [b4_irr] at this
              cases this
          simp [this])
    have ho := fb_ct_or (p := fun b => s b && !px_rm A s n b) (q := px_rm A s n) (n := 40) (fun b _ h => by
      simp only [Bool.and_eq_true, Bool.not_eq_true'] at h
      rw [h.2] at h
      cases h.1.2)
    have hs : fb_ct (fun b => (s b && !px_rm A s n b) || px_rm A s n b) 40 = fb_ct s 40 := fb_ct_cong (fun b _ => by
      cases er : px_rm A s n b
      · simp
      · simp [i2 b er])
    omega
set_option maxRecDepth 8192 in
theorem x8_isPercent {x : Int32} {σ : hb_M} : f_X8_isPercent x σ = some (bI (decide (¬ x < nI 1 ∧ ¬ nI 100 < x)), σ) := by
  unfold f_X8_isPercent
  simp only [plit]
  by_cases h1 : x < nI 1
  · rw [if_pos h1, decide_eq_false (by simp [h1])]; rfl
  · rw [if_neg h1]
    by_cases h2 : nI 100 < x
    · rw [if_pos h2, decide_eq_false (by simp [h2])]; rfl
    · rw [if_neg h2, decide_eq_true (by simp [h1, h2])]; rfl
set_option maxRecDepth 8192 in
theorem pc_ex {x : Int32} (h : ¬ x < nI 1 ∧ ¬ nI 100 < x) : ∃ p, x = nI p ∧ 1 ≤ p ∧ p ≤ 100 := by
  have h1 : ¬ x.toInt < 1 := by
    have := h.1
    rw [fa_lt] at this
    exact this
  have h2 : ¬ (100 : Int) < x.toInt := by
    have := h.2
    rw [fa_lt] at this
    exact this
  refine ⟨x.toInt.toNat, ?_, by omega, by omega⟩
  rw [fa_eq, nI_toInt (by omega)]
  omega
set_option maxRecDepth 8192 in
theorem r9_isHeavy (hN : pr_row (I 131) A) (w : pa_wf A) (hR : mR L A) {o p : Nat} (ho : o < 40) (hp : p ≤ 100) : f_X9_isHeavy 130 (nI o) (nI p) (pm I L r) = some (bI (px_hv A (px_R A) p (px_sz A) o), pm I L r) := by
  have l1 := pd_rt_le w o
  have l2 := px_sz_le w
  have l3 : p * px_sz A ≤ 100 * 17600 := Nat.mul_le_mul hp l2
  have hsz : f_X9_sizes 130 (hb_mk (px_R A)) (pm I L r) = some (lN (px_sz A), pm I L r) := r9_sizes hN w (px_R A) (fun _ _ h => (pg_b_al w h).2)
  unfold f_X9_isHeavy px_hv
  simp (disch := omega) only [pO_130, r9_isReached hR ho, pbs, plit, bIn, r9_retBy hN w hR ho, pI_130_11, hR.1, hsz, nI_l, lN_100, lN_mul, lg_ltE, lN_ltE]
  cases px_R A o
  · rfl
  · by_cases e : p * px_sz A ≤ pd_rt A o * 100
    · rw [if_neg (by decide), if_neg (by omega)]
      simp [e, bI_t]
    · rw [if_neg (by decide), if_pos (by omega)]
      simp [e, bI_f]
set_option maxRecDepth 8192 in
theorem r9_isSuspect (hN : pr_row (I 131) A) (w : pa_wf A) (hR : mR L A) {o p : Nat} (ho : o < 40) (hp : p ≤ 100) : f_X9_isSuspect 130 (nI o) (nI p) (pm I L r) = some (bI (px_sus A p o), pm I L r) := by
  unfold f_X9_isSuspect
  simp only [pO_130, r9_isHeavy hN w hR ho hp, pbs]
  obtain ⟨c, hc⟩ : ∃ c, c = px_hv A (px_R A) p (px_sz A) := ⟨_, rfl⟩
  have hsus : px_sus A p o = (c o && !pq_any (fun b => c b && decide (px_im A b = o + 1)) 40) := by rw [hc]; rfl
  rw [hsus, ← hc]
  cases e : c o
  · obtain ⟨F9, hF9⟩ : ∃ F, hb_FU = F + 1 := ⟨4095, rfl⟩
    rw [hF9, f_X9_isSuspect_b10, if_neg (by decide), if_pos (by decide)]
    exact pz_zr
  · refine hw_the (pm_for (fun n (a : Bool) i => f_X9_isSuspect_b10 n 130 (nI o) (nI p) (bI a) (nI i) (pm I L r)) (fun i a => a = !pq_any (fun b => c b && decide (px_im A b = o + 1)) i) (fun s => s = (bI (true && !pq_any (fun b => c b && decide (px_im A b = o + 1)) 40), pm I L r)) 40 ?_ ?_ hb_FU 0 true (by decide) (by decide) rfl)
    · rintro n a i hi ha
      rw [f_X9_isSuspect_b10]
      cases a
      · left
        have hq : pq_any (fun b => c b && decide (px_im A b = o + 1)) 40 = true := by
          have h1 : pq_any (fun b => c b && decide (px_im A b = o + 1)) i = true := by simpa using ha.symm
          obtain ⟨j, hj, hj2⟩ := (pq_any_iff _ _).mp h1
          exact (pq_any_iff _ _).mpr ⟨j, by omega, hj2⟩
        simp (disch := omega) only [plit, pn_le]
        rw [if_neg (show ¬ 40 ≤ i from by omega), if_pos (show bI false = nI 0 from rfl), hq]
        exact hw_eq pz_zr rfl
      · right
        have hq : pq_any (fun b => c b && decide (px_im A b = o + 1)) i = false := by simpa using ha.symm
        have hle := px_im_le A i
        refine ⟨!(c i && decide (px_im A i = o + 1)), ?_, ?_⟩
        · have hv := r9_isHeavy (r := r) hN w hR hi hp
          rw [← hc] at hv
          simp (disch := omega) only [f_X9_isSuspect_b50, f_X9_isSuspect_b55, plit, pn_le, pO_130, r9_isReached hR hi, pbs, bIn, r9_immediate hR w hi, mI_nI, hv, nI_add]
          rw [if_neg (show ¬ 40 ≤ i from by omega), if_neg (show ¬ true = false from by decide)]
          have hcR : px_R A i = false → c i = false := fun h => by
            rw [hc]
            unfold px_hv
            simp [h]
          cases e1 : px_R A i
          · rw [hcR e1]
            simp [bI_t]
          · by_cases e2 : px_im A i = o + 1
            · cases e3 : c i
              · simp [e2, bI_t]
              · simp [e2, bI_f]
            · simp [e2, bI_t]
        · rw [pq_any, hq, Bool.false_or]
    · rintro n a ha
      rw [f_X9_isSuspect_b10, if_pos (by decide), ha]
      exact hw_eq pz_zr rfl
set_option maxRecDepth 8192 in
theorem ok_suspectAt (x y : Int32) (hC : cS I L r A n H t T P k B) (hA : aS A n H t T P k B) (hB : B + 1000 < 2 ^ 29) : opK (fun σ => f_L_suspectAt 0 x y 148 σ) (fun σ => f_X9_suspectAt 130 x y σ) Int32.toInt64 I L r A n H t T P k B := by
  have w := hA.2.1
  by_cases e : ¬ x < nI 1 ∧ ¬ nI 100 < x
  · obtain ⟨p, hx, hp1, hp⟩ := pc_ex e
    subst hx
    obtain ⟨s, hs⟩ : ∃ s, s = px_sus A p := ⟨_, rfl⟩
    obtain ⟨J, K, g1, g2, g3, g4⟩ := cS_refresh hC hA
    have hct := fb_ct_le s 40
    refine opK_ask (mI (pf1 (fun o => s o && decide (nI (px_ah A s o) = y)) 40)) ⟨J, K, ?_, g2, fun a a1 a2 => g4 a (by omega)⟩ ?_ hA hB
    · show f_L_suspectAt 0 (nI p) y 148 (pm I L r) = _
      unfold f_L_suspectAt
      refine xc_in ?_
      unfold f_X8_suspectAt f_X8_suspectAt_b12
      simp only [x8_isPercent, decide_eq_true e, pbs, plit, bIn, Bool.true_eq_false, if_false]
      rw [pz_xb (by decide), if_pos rfl]
      simp (disch := omega) only [pR_0_1, pbs, pO_12, g1, x0_suspects g3 w hp, ← hs, pc_bitCount]
      cases e2 : pn_at (fb_ct s 40) y with
      | none =>
        have hz : pf1 (fun o => s o && decide (nI (px_ah A s o) = y)) 40 = 0 := pf1_eq0 (fun j hj => by
          cases es : s j
          · rfl
          · have := ah_ct (A := A) hj es
            have hne : ¬ nI (px_ah A s j) = y := fun h => by
              rw [← h, pn_at_nI (by omega) this] at e2
              cases e2
            simp [hne])
        rw [hz, mI_0]
        rcases pn_none (by omega) e2 with h | ⟨h, h1⟩
        · rw [if_pos h]
        · rw [if_neg h, if_neg (fun h2 => by
            rw [fa_lt] at h2
            rw [fa_le] at h1
            omega)]
      | some i =>
        obtain ⟨hi, hy⟩ := pn_at_some (by omega) e2
        subst hy
        simp (disch := omega) only [pn_lt0, if_false, pn_lt]
        rw [if_pos hi]
        obtain ⟨m, m1, m2, m3, m4⟩ := rm_ah A s hi
        have hpf : pf1 (fun o => s o && decide (nI (px_ah A s o) = nI i)) 40 = m + 1 := pf1_eq m2 (by simp [m3, m4]) (fun j hj => by
          cases es : s j
          · rfl
          · have hne : ¬ nI (px_ah A s j) = nI i := fun h => by
              have hjl := ah_ct (A := A) (show j < 40 from by omega) es
              rw [pn_eq (by omega) (by omega), ← m4] at h
              have := ah_one (by omega) m2 es m3 h
              omega
            simp [hne])
        rw [hpf, mI_s]
        have hl := pm_seq (fun n (a : Int32 × (Nat → Bool)) j => f_X8_suspectAt_b51 n 0 (nI i) (hb_mk a.2) a.1 (nI j) (pm J K r)) (fun j => (match j with | 0 => -nI 1 | j + 1 => mI (px_gr A (px_rm A s j) 40), px_rm A s j)) (i + 1) (out := some (.inr (nI m), pm J K r)) (by
          intro n j hj
          have hle := px_gr_le A (px_rm A s j) 40
          simp (disch := omega) only [f_X8_suspectAt_b51, plit, pn_lt, pR_0_1, pbs, pO_12, x0_greatest g3 w, x8_member, pb_anot, nI_add]
          rw [if_neg (show ¬ i < j from by omega)]
          have hq : hb_mk (fun k => px_rm A s j k && !pq1 (mI (px_gr A (px_rm A s j) 40)) k) = hb_mk (px_rm A s (j + 1)) := pb_congr (fun k hk => by
            have hd : pq1 (mI (px_gr A (px_rm A s j) 40)) k = decide (px_gr A (px_rm A s j) 40 = k + 1) := by
              unfold pq1
              apply decide_eq_decide.mpr
              rw [eq_comm, mI_nI (by omega) (by omega)]
            rw [hd]
            rfl)
          rw [hq]) (by
          intro n
          simp (disch := omega) only [f_X8_suspectAt_b51, plit, pn_lt]
          rw [if_pos (by omega), m1, mI_s]) hb_FU (Nat.lt_of_le_of_lt (show i + 1 ≤ 40 from by omega) (by decide))
        exact hl
    · intro J K r' hJ
      have hN := mS_1 hJ
      obtain ⟨K1, g1, g2, g3, g4⟩ := r9_laysRet (L := K) (r := r') hN w
      have hSus : ∀ o, o < 40 → f_X9_isSuspect 130 (nI o) (nI p) (pm (up2 J 130 4 (nI 0)) K1 r') = some (bI (s o), pm (up2 J 130 4 (nI 0)) K1 r') := fun o ho => by
        rw [hs]
        exact r9_isSuspect hN w g2 ho hp
      refine ⟨_, K1, ?_, up2_eq, mK_rf (x := nI 0), fun a ha => ⟨up2_a (by omega), g3 a (by omega) (by omega)⟩⟩
      unfold f_X9_suspectAt f_X9_suspectAt_b16
      simp only [r9_within, plit, pbs, decide_eq_true e, bIn, Bool.true_eq_false, if_false, pO_130, r9_rf (show 0 ≤ 100 from by decide), ne_eq, not_true, decide_false, if_true, g1]
      have hin : ∀ (n i : Nat), i < 40 → s i = true → f_X9_suspectAt_b51 (f_X9_suspectAt_b30 n) hb_FU 130 (nI p) y (nI i) (nI 0) (nI 0) (pm (up2 J 130 4 (nI 0)) K1 r') = if nI (px_ah A s i) = y then some (nI i, pm (up2 J 130 4 (nI 0)) K1 r') else f_X9_suspectAt_b30 n 130 (nI p) y (nI (i + 1)) (pm (up2 J 130 4 (nI 0)) K1 r') := by
        intro n i hi hsi
        have li := pd_rt_le w i
        have hl := pm_seq (fun m (a : Nat) b => f_X9_suspectAt_b51 (f_X9_suspectAt_b30 n) m 130 (nI p) y (nI i) (nI a) (nI b) (pm (up2 J 130 4 (nI 0)) K1 r')) (fun b => fb_ct (fun b => px_b4 A b i && s b) b) 40 (out := if nI (px_ah A s i) = y then some (nI i, pm (up2 J 130 4 (nI 0)) K1 r') else f_X9_suspectAt_b30 n 130 (nI p) y (nI (i + 1)) (pm (up2 J 130 4 (nI 0)) K1 r')) (by
          intro m b hb
          have lb := pd_rt_le w b
          have hn10 : (nI 1 = nI 0) = False := eq_false (by decide)
          have h97 : ∀ q : Bool, f_X9_suspectAt_b97 (f_X9_suspectAt_b30 n) (f_X9_suspectAt_b51 (f_X9_suspectAt_b30 n) m) 130 (nI p) y (nI i) (nI (fb_ct (fun b => px_b4 A b i && s b) b)) (nI b) (bI q) (pm (up2 J 130 4 (nI 0)) K1 r') = f_X9_suspectAt_b51 (f_X9_suspectAt_b30 n) m 130 (nI p) y (nI i) (nI (fb_ct (fun b => px_b4 A b i && s b) b + (if (decide (b ≠ i) && q && s b) = true then 1 else 0))) (nI (b + 1)) (pm (up2 J 130 4 (nI 0)) K1 r') := by
            intro q
            simp (disch := omega) only [f_X9_suspectAt_b97, f_X9_suspectAt_b126, f_X9_suspectAt_b127, plit, pn_eq, bIn, pO_130, hSus b hb, pbs, nI_add]
            by_cases eb : b = i
            · simp [eb]
            · cases q
              · simp [eb]
              · cases s b <;> simp [eb]

          have h1 := h97 true
          have h0 := h97 false
          rw [bI_t] at h1
          rw [bI_f] at h0
          simp (disch := omega) only [f_X9_suspectAt_b51, f_X9_suspectAt_b92, f_X9_suspectAt_b96, plit, pn_le, pn_lt, pn_eq, pO_130, pbs, r9_retBy hN w g2 hb, r9_retBy hN w g2 hi, h1, h0]
          rw [if_neg (show ¬ 40 ≤ b from by omega), fb_ct_succ]
          have hfin : ∀ q : Bool, px_b4 A b i = q → (if (decide (b ≠ i) && q && s b) = true then 1 else 0) = (if (px_b4 A b i && s b) = true then 1 else 0) := by
            intro q hq
            rw [hq]
            by_cases eb : b = i
            · subst eb
              rw [b4_irr] at hq
              rw [← hq]
              simp
            · simp [eb]
          by_cases e1 : pd_rt A i < pd_rt A b
          · rw [if_pos e1, hfin true (b4_iff.mpr (Or.inl e1))]
          · rw [if_neg e1]
            by_cases e2 : pd_rt A b = pd_rt A i
            · rw [if_pos e2]
              by_cases e3 : i ≤ b
              · rw [if_pos e3, hfin false (by
                  cases e4 : px_b4 A b i
                  · rfl
                  · rw [b4_iff] at e4
                    omega)]
              · rw [if_neg e3, hfin true (b4_iff.mpr (Or.inr ⟨e2, by omega⟩))]
            · rw [if_neg e2, hfin false (by
                cases e4 : px_b4 A b i
                · rfl
                · rw [b4_iff] at e4
                  omega)]) (by
          intro m
          rw [f_X9_suspectAt_b51, if_pos (by decide)]
          unfold f_X9_suspectAt_b144
          simp only [plit, nI_add]
          rfl) hb_FU (by decide)
        exact hl
      refine pm_find (fun n i => f_X9_suspectAt_b30 n 130 (nI p) y (nI i) (pm (up2 J 130 4 (nI 0)) K1 r')) (fun o => s o && decide (nI (px_ah A s o) = y)) 40 (out := fun q => some (mI q, pm (up2 J 130 4 (nI 0)) K1 r')) ?_ ?_ ?_ hb_FU (by decide)
      · intro n i hi hp9
        simp (disch := omega) only [f_X9_suspectAt_b30, f_X9_suspectAt_b144, plit, pn_le, pO_130, hSus i hi, pbs, bIn, nI_add]
        rw [if_neg (show ¬ 40 ≤ i from by omega)]
        cases es : s i
        · rw [if_pos rfl]
        · rw [es] at hp9
          simp only [Bool.true_and, decide_eq_false_iff_not] at hp9
          rw [if_neg (by decide), hin n i hi es, if_neg hp9]
      · intro n i hi hp9 _
        simp only [Bool.and_eq_true, decide_eq_true_eq] at hp9
        simp (disch := omega) only [f_X9_suspectAt_b30, f_X9_suspectAt_b144, plit, pn_le, pO_130, hSus i hi, hp9.1, pbs, bIn, nI_add, Bool.true_eq_false, if_false, hin n i hi hp9.1, hp9.2, if_true, mI_s]
        rw [if_neg (show ¬ 40 ≤ i from by omega)]
      · intro n _
        rw [f_X9_suspectAt_b30, if_pos (by decide)]
        rfl
  · refine opK_rf (nI 0) (c := 1) (by decide) (by decide) ?_ ?_ hC hA hB
    · show f_L_suspectAt 0 x y 148 (pm I L r) = _
      unfold f_L_suspectAt
      have hX : f_X8_suspectAt 0 x y (pm I L r) = some (.inl hb_e2, pm I L r) := by
        unfold f_X8_suspectAt f_X8_suspectAt_b12
        simp only [x8_isPercent, decide_eq_false e, pbs, plit, bIn, if_true]
        rw [pz_xb (by decide), if_neg (by decide)]
        rfl
      rw [xc_ex hX]
      exact if_pos rfl
    · intro J K r' hJ
      show f_X9_suspectAt 130 x y (pm J K r') = _
      unfold f_X9_suspectAt f_X9_suspectAt_b16
      simp only [r9_within, plit, pbs, decide_eq_false e, bIn, if_true, pO_130, r9_rf (show 1 ≤ 100 from by decide)]
      rfl
end SUS
