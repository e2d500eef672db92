/-! the filter: the reference's judgement of one object -/
def bS (J : Nat → Nat → Int32) : List Bool → Prop
  | [] => True
  | x :: l => J 146 l.length = bI x ∧ bS J l
set_option maxRecDepth 8192 in
theorem bS_fr {I J : Nat → Nat → Int32} : ∀ {V : List Bool}, bS I V → (∀ i, i < V.length → J 146 i = I 146 i) → bS J V
  | [], _, _ => trivial
  | x :: l, h, e => ⟨by rw [e l.length (by simp)]; exact h.1, bS_fr h.2 (fun i hi => e i (by simp; omega))⟩
set_option maxRecDepth 8192 in
theorem uS_drop {J : Nat → Nat → Int32} : ∀ {k : List (Nat × Nat × Nat)} (m : Nat), uS J k → uS J (k.drop m)
  | [], m, _ => by simp; exact trivial
  | q :: l, 0, h => h
  | q :: l, m + 1, h => by
    rw [List.drop_succ_cons]
    exact uS_drop m h.2.2
set_option maxRecDepth 8192 in
theorem sv_len {A : Nat → Nat → Nat} {o : Nat} {q : Nat × Nat × Nat} {V W : List Bool} (h : sv A o q V = some W) : W.length ≤ V.length + 1 := by
  unfold sv at h
  by_cases e1 : q.1 = 200
  · rw [if_pos e1] at h
    cases V with
    | nil => cases h
    | cons a V => cases h; simp
  rw [if_neg e1] at h
  by_cases e2 : q.1 = 201
  · rw [if_pos e2] at h
    cases V with
    | nil => cases h
    | cons a V =>
      cases V with
      | nil => cases h
      | cons b V => cases h; simp
  rw [if_neg e2] at h
  by_cases e3 : q.1 = 202
  · rw [if_pos e3] at h
    cases V with
    | nil => cases h
    | cons a V =>
      cases V with
      | nil => cases h
      | cons b V => cases h; simp
  rw [if_neg e3] at h
  cases h
  simp
set_option maxRecDepth 8192 in
theorem ev_len {A : Nat → Nat → Nat} {o : Nat} : ∀ {l : List (Nat × Nat × Nat)} {V : List Bool}, ev A o l = some V → V.length ≤ l.length
  | [], V, h => by cases h; simp
  | q :: l, V, h => by
    have h' : (ev A o l).bind (sv A o q) = some V := h
    cases e : ev A o l with
    | none => rw [e] at h'; cases h'
    | some W =>
      rw [e] at h'
      have h1 := ev_len e
      have h2 := sv_len (show sv A o q W = some V from h')
      simp
      omega
set_option maxRecDepth 8192 in
theorem ev_drop {A : Nat → Nat → Nat} {o : Nat} : ∀ {l : List (Nat × Nat × Nat)} (m : Nat) {V : List Bool}, ev A o l = some V → ∃ W, ev A o (l.drop m) = some W
  | [], m, V, h => ⟨V, by simpa using h⟩
  | q :: l, 0, V, h => ⟨V, h⟩
  | q :: l, m + 1, V, h => by
    have h' : (ev A o l).bind (sv A o q) = some V := h
    cases e : ev A o l with
    | none => rw [e] at h'; cases h'
    | some W =>
      rw [List.drop_succ_cons]
      exact ev_drop m e
section FIL9
variable {I J : Nat → Nat → Int32} {L K : Nat → Nat → Int64} {r : Nat → Option Nat} {A : Nat → Nat → Nat} {n : Nat} {H : Nat → Nat → Nat → Nat} {t : Nat} {T : Nat → Nat} {P : Nat → Nat → Nat → Nat} {k : Nat → Bool} {B : Nat}
set_option maxRecDepth 8192 in
theorem fv_lt (w : pa_wf A) {o : Nat} (ho : o < 40) (ha : A o 0 ≠ 0) (a : Nat) : fv A o a < 2 ^ 31 := by
  have hdl := df_le w ho
  have hin' : pa_in A o 320 ≤ 320 := fb_ct_le (fun j => decide (pa_rf A j = o + 1)) 320
  have hou' : pa_ou A o 320 ≤ 320 := fb_ct_le (fun j => decide (j / 8 = o) && decide (pa_rf A j ≠ 0)) 320
  have hrt := pd_rt_le w o
  have hso := pa_so_le w ho ha
  have hag : A o 3 ≤ 99 := (w.2.2.2.1 o ho ha).2.1
  have hgr := pa_gr w ho ha
  unfold fv
  repeat' split
  all_goals omega
set_option maxRecDepth 8192 in
theorem r9_value (hN : pr_row (I 131) A) (w : pa_wf A) (hR : mR L A) (hf : ∀ o, o < 40 → I 139 o = mI (px_df A o)) {o a : Nat} (ho : o < 40) (ha : A o 0 ≠ 0) (hl : a < 1000) : f_X9_valueOf 130 (nI a) (nI o) (pm I L r) = some (nI (fv A o a), pm I L r) := by
  have h1 := (hN.2.2.2 o ho).1 1 (by decide)
  have h3 := (hN.2.2.2 o ho).1 3 (by decide)
  have hdl := df_le w ho
  unfold f_X9_valueOf fv
  simp (disch := omega) only [plit, pn_eq, pO_130, r9_to hN w ho, r9_from hN w ho ha, r9_retBy hN w hR ho, r9_sizeOf hN w ho ha, pR_130_0, pbs, r9_at, nI_add, pA_131, h1, h3, pR_130_13, pA_139, hf o ho, mI_none]
  by_cases x1 : a = 97
  · rw [if_pos x1, if_pos x1]
  rw [if_neg x1, if_neg x1]
  by_cases x2 : a = 100
  · rw [if_pos x2, if_pos x2]
    cases e : px_df A o with
    | zero => rfl
    | succ d => rw [if_neg (by omega), if_neg (by omega), mI_s, Nat.add_sub_cancel]
  rw [if_neg x2, if_neg x2]
  by_cases x3 : a = 105
  · rw [if_pos x3, if_pos x3]
  rw [if_neg x3, if_neg x3]
  by_cases x4 : a = 110
  · rw [if_pos x4, if_pos x4]
  rw [if_neg x4, if_neg x4]
  by_cases x5 : a = 111
  · rw [if_pos x5, if_pos x5]
  rw [if_neg x5, if_neg x5]
  by_cases x6 : a = 114
  · rw [if_pos x6, if_pos x6]
  rw [if_neg x6, if_neg x6]
  by_cases x7 : a = 115
  · rw [if_pos x7, if_pos x7]
  rw [if_neg x7, if_neg x7]
set_option maxRecDepth 8192 in
theorem r9_isSo (hN : pr_row (I 131) A) (w : pa_wf A) (hR : mR L A) (hf : ∀ o, o < 40 → I 139 o = mI (px_df A o)) {o i : Nat} {q : Nat × Nat × Nat} (ho : o < 40) (ha : A o 0 ≠ 0) (hi : i < 100) (h1 : I 142 i = nI q.1) (h2 : I 143 i = nI q.2.1) (h3 : I 144 i = nI q.2.2) (hq : q.1 ≤ 202 ∧ q.2.1 < 200 ∧ q.2.2 < 10000) : f_X9_isSo 130 (nI i) (nI o) (pm I L r) = some (bI (fa A o q), pm I L r) := by
  have g1 := (hN.2.2.2 o ho).1 1 (by decide)
  have g4 := (hN.2.2.2 o ho).1 4 (by decide)
  have h7 : A o 4 ≤ 7 := (w.2.2.2.1 o ho ha).2.2.1
  have hgr := pa_gr w ho ha
  have hv := fv_lt w ho ha q.1
  have h10 := pa_cc10 w
  have hok := (w.2.2.2.1 o ho ha).1
  unfold f_X9_isSo fa
  simp (disch := omega) only [plit, pR_130_16, pR_130_17, pR_130_18, pbs, pA_142, pA_143, pA_144, h1, h2, h3, pn_eq]
  by_cases x1 : q.1 = 42
  · rw [if_pos x1, if_pos x1]
    simp (disch := omega) only [pR_130_0, pbs, r9_at, nI_add, pA_131, g4, pn_eq]
    by_cases e : A o 4 = 0
    · rw [if_pos e, decide_eq_false (fun h => h e)]
      rfl
    · rw [if_neg e, decide_eq_true e]
      rfl
  rw [if_neg x1, if_neg x1]
  by_cases x2 : q.1 = 64
  · rw [if_pos x2, if_pos x2]
    simp (disch := omega) only [pR_130_0, pbs, r9_at, nI_add, pA_131, g1, pn_le]
    by_cases e : 10 ≤ A o 1
    · rw [if_pos e, decide_eq_false (by omega)]
      rfl
    · rw [if_neg e, decide_eq_true (show A o 1 < 10 from by omega), Bool.true_and]
      simp (disch := omega) only [pR_130_18, pbs, pA_144, h3, pO_130, r9_isBelow hN w (show A o 1 < A 40 0 from by omega) (show q.2.2 < 2 ^ 31 from by omega), bIn]
      cases pa_bl A hb_FU (A o 1 + 1) q.2.2 <;> rfl
  rw [if_neg x2, if_neg x2]
  unfold fs
  simp (disch := omega) only [pO_130, r9_value hN w hR hf ho ha (show q.1 < 1000 from by omega), pbs, pR_130_17, pR_130_18, pA_143, pA_144, h2, h3, pn_eq, pn_le]
  by_cases e1 : q.2.1 = 60
  · rw [if_pos e1, if_pos e1]
    by_cases e : q.2.2 ≤ fv A o q.1
    · rw [if_pos e, decide_eq_false (by omega)]; rfl
    · rw [if_neg e, decide_eq_true (by omega)]; rfl
  rw [if_neg e1, if_neg e1]
  by_cases e2 : q.2.1 = 61
  · rw [if_pos e2, if_pos e2]
    by_cases e : fv A o q.1 = q.2.2
    · rw [if_pos e, decide_eq_true e]; rfl
    · rw [if_neg e, decide_eq_false e]; rfl
  rw [if_neg e2, if_neg e2]
  by_cases e : fv A o q.1 ≤ q.2.2
  · rw [if_pos e, decide_eq_false (by omega)]; rfl
  · rw [if_neg e, decide_eq_true (by omega)]; rfl
set_option maxRecDepth 8192 in
theorem r9_isTrue (hN : pr_row (I 131) A) (w : pa_wf A) (hR : mR L A) (hf : ∀ o, o < 40 → I 139 o = mI (px_df A o)) {ks : List (Nat × Nat × Nat)} {s : List Nat} (hM : rM I ks s) (hl : ks.length ≤ 100) {o : Nat} {b : Bool} (ho : o < 40) (ha : A o 0 ≠ 0) (he : ev A o ks = some [b]) : ∃ J, f_X9_isTrue 130 (nI o) (pm I L r) = some (bI b, pm J L r) ∧ ∀ a, a ≠ 146 → J a = I a := by
  have hloop := pm_for (fun F (a : (Nat → Nat → Int32) × List Bool) i => f_X9_isTrue_b4 F 130 (nI o) (nI a.2.length) (nI i) (pm a.1 L r)) (fun i a => ev A o (ks.drop (ks.length - i)) = some a.2 ∧ bS a.1 a.2 ∧ ∀ c, c ≠ 146 → a.1 c = I c) (fun z => z.1 = bI b ∧ ∃ J, z.2 = pm J L r ∧ ∀ a, a ≠ 146 → J a = I a) ks.length ?_ ?_ hb_FU 0 (I, []) (by omega) (by unfold hb_FU; omega) ⟨by simp [ev], trivial, fun _ _ => rfl⟩
  · obtain ⟨⟨v, σ⟩, s1, s2, J, s3, s4⟩ := hloop
    simp only at s2 s3
    subst s2
    subst s3
    exact ⟨J, s1, s4⟩
  · rintro F ⟨J, V⟩ i hi ⟨i1, i2, i3⟩
    simp only at i1 i2 i3
    right
    have hdr : ks.drop (ks.length - (i + 1)) = ks[ks.length - (i + 1)] :: ks.drop (ks.length - i) := by
      rw [List.drop_eq_getElem_cons (show ks.length - (i + 1) < ks.length from by omega), show ks.length - (i + 1) + 1 = ks.length - i from by omega]
    obtain ⟨q, hq⟩ : ∃ q, q = ks[ks.length - (i + 1)] := ⟨_, rfl⟩
    rw [← hq] at hdr
    have hlen : (ks.drop (ks.length - i)).length = i := by rw [List.length_drop]; omega
    have hus := uS_drop (ks.length - (i + 1)) hM.2.2.1
    rw [hdr] at hus
    obtain ⟨⟨u1, u2, u3⟩, u4, -⟩ := hus
    rw [hlen] at u1 u2 u3
    obtain ⟨W, hW⟩ := ev_drop (ks.length - (i + 1)) he
    have hsv : sv A o q V = some W := by
      rw [hdr] at hW
      have : (ev A o (ks.drop (ks.length - i))).bind (sv A o q) = some W := hW
      rw [i1] at this
      exact this
    have hVl := ev_len i1
    rw [hlen] at hVl
    have hJN : pr_row (J 131) A := by rw [i3 131 (by decide)]; exact hN
    have hJf : ∀ o, o < 40 → J 139 o = mI (px_df A o) := fun o ho => by rw [i3 139 (by decide)]; exact hf o ho
    rw [← i3 142 (by decide)] at u1
    rw [← i3 143 (by decide)] at u2
    rw [← i3 144 (by decide)] at u3
    have h19 : J 130 19 = nI ks.length := by rw [i3 130 (by decide)]; exact hM.1
    have n1 : (ks.length ≤ i) = False := eq_false (by omega)
    rw [hW]
    unfold sv at hsv
    by_cases x1 : q.1 = 200
    · rw [if_pos x1] at hsv
      cases V with
      | nil => cases hsv
      | cons a V =>
        cases hsv
        simp only [List.length_cons] at hVl ⊢
        refine ⟨(up2 J 146 V.length (bI (!a)), (!a) :: V), ?_, rfl, ⟨up2_eq, bS_fr i2.2 (fun j hj => up2_nj (by omega))⟩, fun c hc => by simp only [up2_a hc]; exact i3 c hc⟩
        have hb : J 146 V.length = bI a := i2.1
        simp (disch := omega) only [f_X9_isTrue_b4, f_X9_isTrue_b77, f_X9_isTrue_b153, plit, pI_130_19, pbs, h19, pn_le, n1, if_false, pR_130_16, pA_142, u1, x1, Nat.le_refl, if_true, pR_130_23, mI_def, mI_s, pA_146, hb, bIn, nI_add, List.length_cons]
        cases a
        · rw [if_pos rfl, pS_146 (by omega) (Or.inr rfl), pbs]
          rfl
        · rw [if_neg (by decide), pS_146 (by omega) (Or.inl rfl), pbs]
          rfl
    rw [if_neg x1] at hsv
    by_cases x201 : q.1 = 201
    · rw [if_pos x201] at hsv
      cases V with
      | nil => cases hsv
      | cons a V =>
        cases V with
        | nil => cases hsv
        | cons b0 V =>
          cases hsv
          simp only [List.length_cons] at hVl ⊢
          refine ⟨(up2 J 146 V.length (bI (b0 && a)), (b0 && a) :: V), ?_, rfl, ⟨up2_eq, bS_fr i2.2.2 (fun j hj => up2_nj (by omega))⟩, fun c hc => by simp only [up2_a hc]; exact i3 c hc⟩
          have hb1 : J 146 (V.length + 1) = bI a := i2.1
          have hb2 : J 146 V.length = bI b0 := i2.2.1
          have nn : (200 ≤ 201) = True := by decide
          simp (disch := omega) only [f_X9_isTrue_b4, f_X9_isTrue_b123, f_X9_isTrue_b147, f_X9_isTrue_b152, f_X9_isTrue_b153, plit, pI_130_19, pbs, h19, pn_le, n1, if_false, pR_130_16, pA_142, u1, x201, nn, if_true, pn_eq, Nat.reduceEqDiff, pR_130_23, nI_dn, mI_def, mI_s, pA_146, hb1, hb2, bIn, nI_add, List.length_cons, pS_146 (show V.length < 100 from by omega) (Or.inl rfl), pS_146 (show V.length < 100 from by omega) (Or.inr rfl)]
          cases b0 <;> cases a <;> rfl
    rw [if_neg x201] at hsv
    by_cases x202 : q.1 = 202
    · rw [if_pos x202] at hsv
      cases V with
      | nil => cases hsv
      | cons a V =>
        cases V with
        | nil => cases hsv
        | cons b0 V =>
          cases hsv
          simp only [List.length_cons] at hVl ⊢
          refine ⟨(up2 J 146 V.length (bI (b0 || a)), (b0 || a) :: V), ?_, rfl, ⟨up2_eq, bS_fr i2.2.2 (fun j hj => up2_nj (by omega))⟩, fun c hc => by simp only [up2_a hc]; exact i3 c hc⟩
          have hb1 : J 146 (V.length + 1) = bI a := i2.1
          have hb2 : J 146 V.length = bI b0 := i2.2.1
          have nn : (200 ≤ 202) = True := by decide
          simp (disch := omega) only [f_X9_isTrue_b4, f_X9_isTrue_b123, f_X9_isTrue_b147, f_X9_isTrue_b152, f_X9_isTrue_b153, plit, pI_130_19, pbs, h19, pn_le, n1, if_false, pR_130_16, pA_142, u1, x202, nn, if_true, pn_eq, Nat.reduceEqDiff, pR_130_23, nI_dn, mI_def, mI_s, pA_146, hb1, hb2, bIn, nI_add, List.length_cons, pS_146 (show V.length < 100 from by omega) (Or.inl rfl), pS_146 (show V.length < 100 from by omega) (Or.inr rfl)]
          cases b0 <;> cases a <;> rfl
    rw [if_neg x202] at hsv
    cases hsv
    have hq200 : (200 ≤ q.1) = False := eq_false (by omega)
    have hso := r9_isSo (r := r) hJN w hR hJf ho ha (show i < 100 from by omega) u1 u2 u3 u4
    refine ⟨(up2 J 146 V.length (bI (fa A o q)), fa A o q :: V), ?_, rfl, ⟨up2_eq, bS_fr i2 (fun j hj => up2_nj (by omega))⟩, fun c hc => by simp only [up2_a hc]; exact i3 c hc⟩
    have hz : bI (fa A o q) = nI 0 ∨ bI (fa A o q) = nI 1 := by
      cases fa A o q
      · exact Or.inl rfl
      · exact Or.inr rfl
    simp (disch := omega) only [f_X9_isTrue_b4, f_X9_isTrue_b153, plit, pI_130_19, pbs, h19, pn_le, n1, if_false, pR_130_16, pA_142, u1, hq200, pR_130_23, pO_130, hso, pS_146 (show V.length < 100 from by omega) hz, nI_add, List.length_cons]
  · rintro F ⟨J, V⟩ ⟨i1, i2, i3⟩
    simp only at i1 i2 i3
    rw [Nat.sub_self, List.drop_zero, he] at i1
    cases i1
    have h19 : J 130 19 = nI ks.length := by rw [i3 130 (by decide)]; exact hM.1
    have hb : J 146 0 = bI b := i2.1
    simp (disch := omega) only [f_X9_isTrue_b4, plit, pI_130_19, pbs, h19, pn_le, Nat.le_refl, if_true, pR_130_23, pA_146, hb, pz_zr]
    exact hw_some.mpr ⟨rfl, J, rfl, i3⟩
end FIL9
