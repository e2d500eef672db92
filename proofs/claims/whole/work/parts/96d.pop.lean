/-! populate -/
set_option maxRecDepth 8192 in
theorem rn_ex : ∃ f : Nat → Nat, ∀ x, f x = (x * 1103515245 + 12345) % 2147483648 := ⟨_, fun _ => rfl⟩
noncomputable def rn : Nat → Nat := Classical.choose rn_ex
set_option maxRecDepth 8192 in
theorem rn_is (x : Nat) : rn x = (x * 1103515245 + 12345) % 2147483648 := Classical.choose_spec rn_ex x
set_option maxRecDepth 8192 in
theorem rv_ex : ∃ f : Nat → Nat → Nat, ∀ x b, f x b = rn x / 65536 % b := ⟨_, fun _ _ => rfl⟩
noncomputable def rv : Nat → Nat → Nat := Classical.choose rv_ex
set_option maxRecDepth 8192 in
theorem rv_is (x b : Nat) : rv x b = rn x / 65536 % b := Classical.choose_spec rv_ex x b
set_option maxRecDepth 8192 in
theorem rn_lt (x : Nat) : rn x < 2 ^ 31 := by
  rw [rn_is]
  exact Nat.mod_lt _ (by decide)
set_option maxRecDepth 8192 in
theorem rv_lt (x : Nat) {b : Nat} (h : 0 < b) : rv x b < b := by
  rw [rv_is]
  exact Nat.mod_lt _ h
def po_lo (A : Nat → Nat → Nat) : Nat := pf1 (fun o => !pa_al A o) 40 - 1
noncomputable def po_mk (A : Nat → Nat → Nat) (o x : Nat) : (Nat → Nat → Nat) × Nat := if rv x 4 = 2 then (pa_new A o 10 (rv (rn x) 9), rn (rn x)) else if rv x 4 = 3 then (pa_new A o 11 1, rn x) else (pa_new A o (rv (rn x) (A 40 0)) (pa_fo A (rv (rn x) (A 40 0))), rn (rn x))
noncomputable def po_sl (o s : Nat) (a : (Nat → Nat → Nat) × Nat) : (Nat → Nat → Nat) × Nat := if s < a.1 o 2 then (if rv a.2 3 = 0 then (a.1, rn a.2) else (up2 a.1 o (5 + s) (pb_nth (pa_al a.1) (nI (rv (rn a.2) (fb_ct (pa_al a.1) 40)))), rn (rn a.2))) else a
noncomputable def po_rt (o : Nat) (a : (Nat → Nat → Nat) × Nat) : (Nat → Nat → Nat) × Nat := if rv a.2 5 = 0 then (up2 a.1 o 4 (2 ^ rv (rn a.2) 3), rn (rn a.2)) else (a.1, rn a.2)
noncomputable def po_one (a : (Nat → Nat → Nat) × Nat) : (Nat → Nat → Nat) × Nat := po_rt (po_lo a.1) (pm_fold (po_sl (po_lo a.1)) 8 (po_mk a.1 (po_lo a.1) a.2))
set_option maxRecDepth 8192 in
theorem pb_nth_ex {p : Nat → Bool} {k : Nat} (h : k < fb_ct p 40) : ∃ i, pb_nth p (nI k) = i + 1 ∧ i < 40 ∧ p i = true ∧ fb_ct p i = k ∧ ∀ j, j < i → fb_ct p (j + 1) ≤ k := by
  have hle := fb_ct_le p 40
  obtain ⟨i, h1, h2, h3⟩ := fb_ct_kth h
  have hm : ∀ j, j < i → p j = true → fb_ct p (j + 1) ≤ k := fun j hj _ => by
    have := fb_ct_mono p (show j + 1 ≤ i from by omega)
    omega
  refine ⟨i, pf1_eq h1 (by simp [h2, h3]) (fun j hj => ?_), h1, h2, h3, fun j hj => ?_⟩
  · cases e : p j
    · rfl
    · have hne : ¬ nI (fb_ct p j) = nI k := fun he => by
        have hj2 := fb_ct_le p j
        rw [pn_eq (by omega) (by omega)] at he
        have := fb_ct_kth_one e h2 (by omega)
        omega
      simp [hne]
  · have := fb_ct_mono p (show j + 1 ≤ i from by omega)
    omega
section POP
variable {I J : Nat → Nat → Int32} {L K : Nat → Nat → Int64} {r : Nat → Option Nat} {A : Nat → Nat → Nat} {n : Nat} {H : Nat → Nat → Nat → Nat} {t : Nat} {T : Nat → Nat} {P : Nat → Nat → Nat → Nat} {k : Nat → Bool} {B : Nat}
set_option maxRecDepth 8192 in
theorem cV_L (h : cV I L A B) (e : ∀ a, 12 ≤ a → a ≤ 28 → K a = L a) : cV I K A B := by
  obtain ⟨v, c, h1, h2, h3, h4, h5⟩ := h
  exact ⟨v, c, h1, h2, h3, h4, fun h => px_fr (h5 h) (fun a a1 a2 _ => ⟨rfl, e a a1 a2⟩)⟩
set_option maxRecDepth 8192 in
theorem cS_L (h : cS I L r A n H t T P k B) (e : ∀ a, 12 ≤ a → a ≤ 28 → K a = L a) : cS I K r A n H t T P k B := ⟨h.1, cV_L h.2.1 e, h.2.2⟩
set_option maxRecDepth 8192 in
theorem x2_below {x b : Nat} (hx : L 105 0 = lN x) (hx2 : x < 2 ^ 31) (hb : 0 < b) (hb2 : b < 2 ^ 31) : f_X2_below 105 (nI b) (pm I L r) = some (nI (rv x b), pm I (up2 L 105 0 (lN (rn x))) r) := by
  have h1 := rn_lt x
  have h2 : ¬ b = 0 := by omega
  have h3 : ¬ b ≤ 0 := by omega
  have e1 : lN (x * 1103515245 + 12345) - lN (x * 1103515245 + 12345) / lN 2147483648 * lN 2147483648 = lN (rn x) := by rw [rn_is]; exact pk_lRem (by omega) (by decide) (by decide)
  have e2 : lN (rn x) / lN 65536 = lN (rn x / 65536) := pk_lDiv (by omega) (by decide) (by decide)
  have e3 : lN (rn x / 65536) - lN (rn x / 65536) / lN b * lN b = lN (rv x b) := by rw [rv_is]; exact pk_lRem (by omega) hb (by omega)
  have e4 : (lN b = lN 0) = False := by
    rw [propext (lN_eq hb2 (by decide))]
    exact eq_false h2
  unfold f_X2_below
  simp (disch := omega) only [pI_105_0, pbs, hx, fa_litL, lN_mul, lN_add, e1, pP_105_0, plit, pn_le, h3, if_false, up2_eq, nI_l, e4, e2, e3, lN_i]
set_option maxRecDepth 8192 in
theorem r9_draw {x b : Nat} (hx : L 130 10 = lN x) (hx2 : x < 2 ^ 31) (hb : 0 < b) (hb2 : b < 2 ^ 31) : f_X9_draw 130 (nI b) (pm I L r) = some (nI (rv x b), pm I (up2 L 130 10 (lN (rn x))) r) := by
  have h1 := rn_lt x
  have h2 : ¬ b = 0 := by omega
  have e1 : lN (x * 1103515245 + 12345) - lN (x * 1103515245 + 12345) / lN 2147483648 * lN 2147483648 = lN (rn x) := by rw [rn_is]; exact pk_lRem (by omega) (by decide) (by decide)
  have e2 : lN (rn x) / lN 65536 = lN (rn x / 65536) := pk_lDiv (by omega) (by decide) (by decide)
  have e3 : lN (rn x / 65536) - lN (rn x / 65536) / lN b * lN b = lN (rv x b) := by rw [rv_is]; exact pk_lRem (by omega) hb (by omega)
  have e4 : (lN b = lN 0) = False := by
    rw [propext (lN_eq hb2 (by decide))]
    exact eq_false h2
  unfold f_X9_draw
  simp (disch := omega) only [pI_130_10, pbs, hx, fa_litL, lN_mul, lN_add, e1, pP_130_10, up2_eq, nI_l, e4, if_false, e2, e3, lN_i]
/-! what is new is sound -/
set_option maxRecDepth 8192 in
theorem po_mk_ok (w : pa_wf A) {o : Nat} (ho : o < 40) (hn : A 40 1 + 1 < 2 ^ 30) (x : Nat) : ∃ g s, (po_mk A o x).1 = pa_new A o g s ∧ (g < A 40 0 ∧ s = pa_fo A g ∨ g = 10 ∧ s ≤ 8 ∨ g = 11 ∧ s = 1) ∧ (po_mk A o x).2 < 2 ^ 31 := by
  have h1 := pa_cc1 w
  unfold po_mk
  by_cases e1 : rv x 4 = 2
  · rw [if_pos e1]
    exact ⟨10, rv (rn x) 9, rfl, Or.inr (Or.inl ⟨rfl, by have := rv_lt (rn x) (b := 9) (by decide); omega⟩), rn_lt _⟩
  · rw [if_neg e1]
    by_cases e2 : rv x 4 = 3
    · rw [if_pos e2]
      exact ⟨11, 1, rfl, Or.inr (Or.inr ⟨rfl, rfl⟩), rn_lt _⟩
    · rw [if_neg e2]
      exact ⟨_, _, rfl, Or.inl ⟨rv_lt _ (by omega), rfl⟩, rn_lt _⟩
def po_ok (o : Nat) (N : Nat) (C : Nat → Bool) (a : (Nat → Nat → Nat) × Nat) : Prop := pa_wf a.1 ∧ a.1 o 0 ≠ 0 ∧ a.2 < 2 ^ 31 ∧ a.1 40 1 = N ∧ ∀ q, pa_al a.1 q = C q
set_option maxRecDepth 8192 in
theorem po_sl_ok {o s N : Nat} {C : Nat → Bool} {a : (Nat → Nat → Nat) × Nat} (ho : o < 40) (hs : s < 8) (h : po_ok o N C a) : po_ok o N C (po_sl o s a) ∧ (po_sl o s a).1 o 2 = a.1 o 2 ∧ (po_sl o s a).1 o 4 = a.1 o 4 := by
  obtain ⟨w, ha, hx, hN, hC⟩ := h
  unfold po_sl
  by_cases e1 : s < a.1 o 2
  · rw [if_pos e1]
    by_cases e2 : rv a.2 3 = 0
    · rw [if_pos e2]
      exact ⟨⟨w, ha, rn_lt _, hN, hC⟩, rfl, rfl⟩
    · rw [if_neg e2]
      have hpos : 0 < fb_ct (pa_al a.1) 40 := fb_ct_pos.mpr ⟨o, ho, by simp [pa_al, ha]⟩
      obtain ⟨i, i1, i2, i3, -⟩ := pb_nth_ex (p := pa_al a.1) (rv_lt (rn a.2) hpos)
      rw [i1]
      have hz : ∀ q, up2 a.1 o (5 + s) (i + 1) q 0 = a.1 q 0 := fun q => up2_nj (by omega)
      refine ⟨⟨pa_wf_set w ho ha e1 (by omega) (fun _ => by simpa [pa_al] using i3), by show up2 a.1 o (5 + s) (i + 1) o 0 ≠ 0; rw [hz]; exact ha, rn_lt _, ?_, fun q => ?_⟩, up2_nj (by omega), up2_nj (by omega)⟩
      · show up2 a.1 o (5 + s) (i + 1) 40 1 = N
        rw [up2_ne (by omega)]
        exact hN
      · show pa_al (up2 a.1 o (5 + s) (i + 1)) q = C q
        rw [← hC q]
        unfold pa_al
        rw [hz]
  · rw [if_neg e1]
    exact ⟨⟨w, ha, hx, hN, hC⟩, rfl, rfl⟩
set_option maxRecDepth 8192 in
theorem po_sls_ok {o N : Nat} {C : Nat → Bool} {a : (Nat → Nat → Nat) × Nat} (ho : o < 40) (h : po_ok o N C a) : ∀ m, m ≤ 8 → po_ok o N C (pm_fold (po_sl o) m a) ∧ (pm_fold (po_sl o) m a).1 o 2 = a.1 o 2 ∧ (pm_fold (po_sl o) m a).1 o 4 = a.1 o 4 := by
  intro m
  induction m with
  | zero => exact fun _ => ⟨h, rfl, rfl⟩
  | succ m ih =>
    intro hm
    obtain ⟨i1, i2, i3⟩ := ih (by omega)
    obtain ⟨s1, s2, s3⟩ := po_sl_ok ho (show m < 8 from by omega) i1
    exact ⟨s1, by rw [← i2]; exact s2, by rw [← i3]; exact s3⟩
set_option maxRecDepth 8192 in
theorem po_rt_ok {o N : Nat} {C : Nat → Bool} {a : (Nat → Nat → Nat) × Nat} (ho : o < 40) (h : po_ok o N C a) : po_ok o N C (po_rt o a) := by
  obtain ⟨w, ha, hx, hN, hC⟩ := h
  unfold po_rt
  by_cases e : rv a.2 5 = 0
  · rw [if_pos e]
    have h3 := rv_lt (rn a.2) (b := 3) (by decide)
    have h7 : 2 ^ rv (rn a.2) 3 ≤ 7 := by
      have key : ∀ k, k < 3 → 2 ^ k ≤ 7 := by decide
      exact key _ h3
    have hz : ∀ q, up2 a.1 o 4 (2 ^ rv (rn a.2) 3) q 0 = a.1 q 0 := fun q => up2_nj (by decide)
    refine ⟨pa_wf_root w ho ha h7, by show up2 a.1 o 4 (2 ^ rv (rn a.2) 3) o 0 ≠ 0; rw [hz]; exact ha, rn_lt _, ?_, fun q => ?_⟩
    · show up2 a.1 o 4 _ 40 1 = N
      rw [up2_ne (by omega)]
      exact hN
    · show pa_al (up2 a.1 o 4 _) q = C q
      rw [← hC q]
      unfold pa_al
      rw [hz]
  · rw [if_neg e]
    exact ⟨w, ha, rn_lt _, hN, hC⟩
set_option maxRecDepth 8192 in
theorem po_lo_ex (h : fb_ct (pa_al A) 40 < 40) : po_lo A < 40 ∧ A (po_lo A) 0 = 0 ∧ ∀ p, p < po_lo A → A p 0 ≠ 0 := by
  obtain ⟨o, h1, h2, h3⟩ := pw_low h
  have : pf1 (fun o => !pa_al A o) 40 = o + 1 := pf1_eq h1 (by simp [pa_al, h2]) (fun j hj => by simp [pa_al, h3 j hj])
  unfold po_lo
  rw [this, Nat.add_sub_cancel]
  exact ⟨h1, h2, h3⟩
set_option maxRecDepth 8192 in
theorem po_mk_ok2 (w : pa_wf A) {o x : Nat} (ho : o < 40) (h0 : A o 0 = 0) (hn : A 40 1 + 1 < 2 ^ 30) : po_ok o (A 40 1 + 1) (fun q => if q = o then true else pa_al A q) (po_mk A o x) := by
  obtain ⟨g, s, e1, e2, e3⟩ := po_mk_ok w ho hn x
  have h1 := w.1.2.2.1
  refine ⟨?_, ?_, e3, ?_, fun q => ?_⟩
  · rw [e1]
    exact pa_wf_new w ho hn e2
  · rw [e1]
    simp [pa_new]
    omega
  · rw [e1, pa_new_nx ho]
  · rw [e1]
    unfold pa_al pa_new
    by_cases e : q = o
    · simp [e]
      omega
    · by_cases e4 : q = 40
      · have e5 : ¬ (40 : Nat) = o := by omega
        simp [e4, e5]
      · simp [e, e4]
set_option maxRecDepth 8192 in
theorem po_one_ok (w : pa_wf A) {x : Nat} (hx : x < 2 ^ 31) (hf : fb_ct (pa_al A) 40 < 40) (hn : A 40 1 + 1 < 2 ^ 30) : pa_wf (po_one (A, x)).1 ∧ (po_one (A, x)).2 < 2 ^ 31 ∧ (po_one (A, x)).1 40 1 = A 40 1 + 1 ∧ fb_ct (pa_al (po_one (A, x)).1) 40 = fb_ct (pa_al A) 40 + 1 := by
  obtain ⟨o1, o2, o3⟩ := po_lo_ex hf
  have hq := po_rt_ok o1 (po_sls_ok o1 (po_mk_ok2 w (x := x) o1 o2 hn) 8 (Nat.le_refl 8)).1
  have hone : po_one (A, x) = po_rt (po_lo A) (pm_fold (po_sl (po_lo A)) 8 (po_mk A (po_lo A) x)) := by
    unfold po_one
    rfl
  rw [← hone] at hq
  obtain ⟨a, hadef⟩ : ∃ a, a = po_one (A, x) := ⟨_, rfl⟩
  rw [← hadef] at hq ⊢
  obtain ⟨p1, p2, p3, p4, p5⟩ := hq
  refine ⟨p1, p3, p4, ?_⟩
  have hc : fb_ct (pa_al a.1) 40 = fb_ct (fun q => if q = po_lo A then true else pa_al A q) 40 := fb_ct_cong (fun q _ => p5 q)
  have hu := fb_ct_upd (pa_al A) true o1
  rw [show pa_al A (po_lo A) = false from by simp [pa_al, o2]] at hu
  rw [hc]
  simpa using hu
/-! the class adds one -/
set_option maxRecDepth 8192 in
theorem x2_addTo (hC : cS I L r A n H t T P k B) (w : pa_wf A) (hN : A 40 1 ≤ B) (hB : B < 2 ^ 29) {x : Nat} (hx : L 105 0 = lN x) (hx2 : x < 2 ^ 31) (hf : fb_ct (pa_al A) 40 < 40) : ∃ J K, f_X2_addTo 105 1 (pm I L r) = some (pm J K r) ∧ cS J K r (po_one (A, x)).1 n H t T P k (B + 10) ∧ K 105 0 = lN (po_one (A, x)).2 ∧ ∀ a, 11 < a → J a = I a ∧ (a ≠ 105 → K a = L a) := by
  obtain ⟨o1, o2, o3⟩ := po_lo_ex hf
  obtain ⟨o, ho⟩ : ∃ o, o = po_lo A := ⟨_, rfl⟩
  rw [← ho] at o1 o2 o3
  have h1 := pa_cc1 w
  have h10 := pa_cc10 w
  -- the new object
  have hnew : ∃ J K, f_X2_newObject 105 1 (pm I L r) = some (nI o, pm J K r) ∧ cS J K r (po_mk A o x).1 n H t T P k (B + 1) ∧ K 105 0 = lN (po_mk A o x).2 ∧ ∀ a, 11 < a → J a = I a ∧ (a ≠ 105 → K a = L a) := by
    have hb4 := x2_below (I := I) (r := r) hx hx2 (b := 4) (by decide) (by decide)
    have hu : up2 L 105 0 (lN (rn x)) 105 0 = lN (rn x) := up2_eq
    have hcS : ∀ K, (∀ a, a ≠ 105 → K a = L a) → cS I K r A n H t T P k B := fun K hK => cS_L hC (fun a _ _ => hK a (by omega))
    have hR := hC.1
    have r4 := rv_lt x (b := 4) (by decide)
    unfold f_X2_newObject po_mk
    simp (disch := omega) only [pO_105, plit, hb4, pbs, pn_eq]
    by_cases e1 : rv x 4 = 2
    · rw [if_pos e1, if_pos e1]
      have r9 := rv_lt (rn x) (b := 9) (by decide)
      simp (disch := omega) only [x2_below (I := I) (r := r) hu (rn_lt x) (show 0 < 9 from by decide) (show 9 < 2 ^ 31 from by decide), pbs, pO_h hp_1, x4_addArray hp_1 hR w (show rv (rn x) 9 ≤ 8 from by omega) o1 o2 o3]
      refine ⟨_, _, rfl, cS_heap (hcS _ (fun a ha => by rw [up2_a ha, up2_a ha])) (by omega) (ph_new hR w o1 (by rw [pa_so_new o1]; rfl)) pu_new_v (fun a ha => pu_new_fr a (by omega)), up2_eq, fun a ha => ⟨pu_new_fr a (by omega), fun h => by rw [up2_a h, up2_a h]⟩⟩
    · rw [if_neg e1, if_neg e1]
      by_cases e2 : rv x 4 = 3
      · rw [if_pos e2, if_pos e2]
        simp only [pbs, pO_h hp_1, x4_addHolder hp_1 hR w o1 o2 o3]
        refine ⟨_, _, rfl, cS_heap (hcS _ (fun a ha => by rw [up2_a ha])) (by omega) (ph_new hR w o1 (by rw [pa_so_new o1]; rfl)) pu_new_v (fun a ha => pu_new_fr a (by omega)), up2_eq, fun a ha => ⟨pu_new_fr a (by omega), fun h => by rw [up2_a h]⟩⟩
      · rw [if_neg e2, if_neg e2]
        have rc := rv_lt (rn x) (b := A 40 0) (by omega)
        simp (disch := omega) only [pI_h_0 hp_1, hR.1, pbs, x2_below (I := I) (r := r) hu (rn_lt x) (show 0 < A 40 0 from by omega) (show A 40 0 < 2 ^ 31 from by omega), pO_h hp_1, x4_addInstance hp_1 hR w rc o1 o2 o3]
        refine ⟨_, _, rfl, cS_heap (hcS _ (fun a ha => by rw [up2_a ha, up2_a ha])) (by omega) (ph_new hR w o1 (by rw [pa_so_new o1, if_neg (by omega), if_neg (by omega)])) pu_new_v (fun a ha => pu_new_fr a (by omega)), up2_eq, fun a ha => ⟨pu_new_fr a (by omega), fun h => by rw [up2_a h, up2_a h]⟩⟩
  obtain ⟨J0, K0, n1, n2, n3, n4⟩ := hnew
  have hok0 := po_mk_ok2 w (x := x) o1 o2 (by omega)
  have hsls := po_sls_ok o1 hok0
  -- slots and root
  have hloop := pm_for (fun F (a : (Nat → Nat → Int32) × (Nat → Nat → Int64)) i => f_X2_addTo_b8 F 105 1 (nI o) (nI i) (pm a.1 a.2 r)) (fun i a => cS a.1 a.2 r (pm_fold (po_sl o) i (po_mk A o x)).1 n H t T P k (B + 1 + i) ∧ a.2 105 0 = lN (pm_fold (po_sl o) i (po_mk A o x)).2 ∧ ∀ c, 11 < c → a.1 c = I c ∧ (c ≠ 105 → a.2 c = L c)) (fun s => ∃ J K, s = pm J K r ∧ cS J K r (po_rt o (pm_fold (po_sl o) 8 (po_mk A o x))).1 n H t T P k (B + 10) ∧ K 105 0 = lN (po_rt o (pm_fold (po_sl o) 8 (po_mk A o x))).2 ∧ ∀ c, 11 < c → J c = I c ∧ (c ≠ 105 → K c = L c)) 8 ?_ ?_ hb_FU 0 (J0, K0) (by decide) (by decide) ⟨n2, n3, n4⟩
  · obtain ⟨s, s1, J, K, s2, s3, s4, s5⟩ := hloop
    refine ⟨J, K, ?_, ?_, ?_, s5⟩
    · unfold f_X2_addTo
      simp only [pO_105, n1, pbs, plit]
      rw [← s2, ← s1]
    · unfold po_one
      rw [← ho]
      exact s3
    · unfold po_one
      rw [← ho]
      exact s4
  · rintro F ⟨J, K⟩ i hi ⟨i1, i2, i3⟩
    simp only at i1 i2 i3
    right
    obtain ⟨⟨k1, k2, k3, k4, k5⟩, k6, -⟩ := hsls i (by omega)
    obtain ⟨a, hadef⟩ : ∃ a, a = pm_fold (po_sl o) i (po_mk A o x) := ⟨_, rfl⟩
    have hnx : pm_fold (po_sl o) (i + 1) (po_mk A o x) = po_sl o i a := by rw [hadef]; rfl
    rw [hnx]
    rw [← hadef] at i1 i2 k1 k2 k3 k4 k5 k6
    have h8 := pa_sl8 k1 o1 k2
    have e3 : pa_al a.1 o = true := by simp [pa_al, k2]
    have hslot : pa_isS a.1 (nI o) (nI i) = decide (i < a.1 o 2) := by
      rw [pa_isS_nI o1, e3, Bool.true_and]
      by_cases e : i < a.1 o 2
      · rw [pn_at_nI (by omega) e]
        simp [e]
      · cases e9 : pn_at (a.1 o 2) (nI i) with
        | none => simp [e]
        | some q =>
          obtain ⟨q1, q2⟩ := pn_at_some (by omega) e9
          rw [nI_eq (by omega) (by omega)] at q2
          omega
    unfold po_sl
    by_cases e : i < a.1 o 2
    · have hb3 := x2_below (I := J) (r := r) i2 k3 (b := 3) (by decide) (by decide)
      by_cases e2 : rv a.2 3 = 0
      · refine ⟨(J, up2 K 105 0 (lN (rn a.2))), ?_, ?_, ?_, fun c hc => ⟨(i3 c hc).1, fun h => by simp only [up2_a h]; exact (i3 c hc).2 h⟩⟩
        · simp (disch := omega) only [f_X2_addTo_b8, f_X2_addTo_b58, plit, pn_le, pO_h hp_1, x4_hasSlot hp_1 i1.1 k1, hslot, decide_eq_true e, pbs, bIn, Bool.true_eq_false, if_false, pO_105, hb3, e2, if_true, nI_add]
          rw [if_neg (show ¬ 8 ≤ i from by omega)]
        · rw [if_pos e, if_pos e2]
          exact cS_le (cS_L i1 (fun a _ _ => up2_a (by omega))) (by omega)
        · simp only [if_pos e, if_pos e2, up2_eq]
      · have hpos : 0 < fb_ct (pa_al a.1) 40 := fb_ct_pos.mpr ⟨o, o1, e3⟩
        have hctl := fb_ct_le (pa_al a.1) 40
        have hbm := x2_below (I := J) (L := up2 K 105 0 (lN (rn a.2))) (r := r) up2_eq (rn_lt a.2) hpos (show fb_ct (pa_al a.1) 40 < 2 ^ 31 from by omega)
        have hne3 : (nI (rv a.2 3) = nI 0) = False := by
          have := rv_lt a.2 (b := 3) (by decide)
          rw [pn_eq (by omega) (by omega)]
          exact eq_false e2
        obtain ⟨v, hv⟩ : ∃ v, v = pb_nth (pa_al a.1) (nI (rv (rn a.2) (fb_ct (pa_al a.1) 40))) := ⟨_, rfl⟩
        refine ⟨(up2 (up2 J (1 + 10) (o * 8 + i) (mI v)) 1 12 (J 1 12 + nI 1), up2 (up2 K 105 0 (lN (rn a.2))) 105 0 (lN (rn (rn a.2)))), ?_, ?_, ?_, fun c hc => ⟨by simp (disch := omega) only [up2_a]; exact (i3 c hc).1, fun h => by simp only [up2_a h]; exact (i3 c hc).2 h⟩⟩
        · simp (disch := omega) only [f_X2_addTo_b8, f_X2_addTo_b58, plit, pn_le, pO_h hp_1, x4_hasSlot hp_1 i1.1 k1, hslot, decide_eq_true e, pbs, bIn, Bool.true_eq_false, if_false, pO_105, hb3, hne3, x4_allObjects hp_1 i1.1 k1, pc_bitCount, hbm, x8_memberAt, ← hv, x4_putTarget hp_1 i1.1 k1 o1 k2 e, nI_add]
          rw [if_neg (show ¬ 8 ≤ i from by omega)]
        · rw [if_pos e, if_neg e2, ← hv]
          exact cS_le (cS_heap (cS_L (K := up2 (up2 K 105 0 (lN (rn a.2))) 105 0 (lN (rn (rn a.2)))) i1 (fun a _ _ => by rw [up2_a (by omega), up2_a (by omega)])) (by omega) (ph_set i1.1 (J 1 12 + nI 1) o1 k2 (by omega)) (by simp only [up2_eq]) (fun a ha => by simp (disch := omega) only [up2_a])) (by omega)
        · simp only [if_pos e, if_neg e2, up2_eq]
    · refine ⟨(J, K), ?_, ?_, ?_, i3⟩
      · simp (disch := omega) only [f_X2_addTo_b8, f_X2_addTo_b58, plit, pn_le, pO_h hp_1, x4_hasSlot hp_1 i1.1 k1, hslot, decide_eq_false e, pbs, bIn, if_true, nI_add]
        rw [if_neg (show ¬ 8 ≤ i from by omega)]
      · rw [if_neg e]
        exact cS_le i1 (by omega)
      · rw [if_neg e]
        exact i2
  · rintro F ⟨J, K⟩ ⟨i1, i2, i3⟩
    simp only at i1 i2 i3
    obtain ⟨⟨k1, k2, k3, k4, k5⟩, k6, -⟩ := hsls 8 (Nat.le_refl 8)
    obtain ⟨a, hadef⟩ : ∃ a, a = pm_fold (po_sl o) 8 (po_mk A o x) := ⟨_, rfl⟩
    rw [← hadef] at i1 i2 k1 k2 k3 k4 k5 k6 ⊢
    have hb5 := x2_below (I := J) (r := r) i2 k3 (b := 5) (by decide) (by decide)
    have e3 : pa_al a.1 o = true := by simp [pa_al, k2]
    unfold po_rt
    by_cases e : rv a.2 5 = 0
    · have hb3 := x2_below (I := J) (L := up2 K 105 0 (lN (rn a.2))) (r := r) up2_eq (rn_lt a.2) (b := 3) (by decide) (by decide)
      have r3 := rv_lt (rn a.2) (b := 3) (by decide)
      obtain ⟨v, hv⟩ : ∃ v, v = 2 ^ rv (rn a.2) 3 := ⟨_, rfl⟩
      have hsh : (nI 1 : Int32) <<< (nI (rv (rn a.2) 3) &&& nI 31) = nI v := by
        rw [hv]
        have key : ∀ k, k < 3 → (nI 1 : Int32) <<< (nI k &&& nI 31) = nI (2 ^ k) := by decide +kernel
        exact key _ r3
      simp (disch := omega) only [f_X2_addTo_b8, plit, pn_le, Nat.le_refl, if_true, pO_105, hb5, pbs, e, pO_h hp_1, x4_hasObj hp_1 i1.1 k1 o1, e3, bIn, Bool.true_eq_false, if_false, hb3, hsh, x4_putRoots hp_1 o1]
      refine hw_some.mpr ⟨_, _, rfl, ?_, up2_eq, fun c hc => ⟨by rw [up2_a (by omega), up2_a (by omega)]; exact (i3 c hc).1, fun h => by rw [up2_a h, up2_a h]; exact (i3 c hc).2 h⟩⟩
      rw [← hv]
      exact cS_le (cS_heap (cS_L i1 (fun a _ _ => by rw [up2_a (by omega), up2_a (by omega)])) (by omega) (ph_root i1.1 (J 1 12 + nI 1) o1 k2) up2_eq (fun a ha => by rw [up2_a (by omega), up2_a (by omega)])) (by omega)
    · have hne : (nI (rv a.2 5) = nI 0) = False := by
        have := rv_lt a.2 (b := 5) (by decide)
        rw [pn_eq (by omega) (by omega)]
        exact eq_false e
      simp (disch := omega) only [f_X2_addTo_b8, plit, pn_le, Nat.le_refl, if_true, pO_105, hb5, pbs, hne, if_false]
      refine hw_some.mpr ⟨_, _, rfl, ?_, ?_, fun c hc => ⟨(i3 c hc).1, fun h => by rw [up2_a h]; exact (i3 c hc).2 h⟩⟩
      · rw [if_neg e]
        exact cS_le (cS_L i1 (fun a _ _ => up2_a (by omega))) (by omega)
      · rw [if_neg e, up2_eq]
end POP
