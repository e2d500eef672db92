/-! the filter: the class's reading of it -/
def fC (I : Nat → Nat → Int32) (L : Nat → Nat → Int64) (r : Nat → Option Nat) (f : hb_M → Option (Int64 × hb_M)) (s : Nat × Bool) (y : (Nat × Bool) × (Nat → Bool)) : Prop := ∃ x, f (pm (ps I s) L r) = some (x, pm (ps I y.1) L r) ∧ (y.1.2 = false → x = hb_mk y.2)
section FIL2
variable {I J : Nat → Nat → Int32} {L K : Nat → Nat → Int64} {r : Nat → Option Nat} {A : Nat → Nat → Nat} {n : Nat} {H : Nat → Nat → Nat → Nat} {t : Nat} {T : Nat → Nat} {P : Nat → Nat → Nat → Nat} {k : Nat → Bool} {B : Nat}
set_option maxRecDepth 8192 in
theorem sx_skip (h : cT I t T) (ht : t ≤ 100) (hT : ∀ j, j < t → T j < 128) {c : Nat} {s : Nat × Bool} (hc : c < 1000) (hp : s.1 < 1000) : f_X7_skip 97 (nI c) (pm (ps I s) L r) = some (bI (tk t T s.1 s.2 c), pm (ps I (if tk t T s.1 s.2 c then s.1 + 1 else s.1, s.2)) L r) := x7_skip h ht hT hp hc
set_option maxRecDepth 8192 in
theorem sx_oneOf (h : cT I t T) (ht : t ≤ 100) (hT : ∀ j, j < t → T j < 128) {k0 : Nat} {s : Nat × Bool} (hk : 1 ≤ k0 ∧ k0 ≤ 3) (hp : s.1 < 1000) : f_X7_oneOf 97 k0 (pm (ps I s) L r) = some (mI (if to t T s.1 s.2 k0 then tn t T s.1 s.2 else 0), pm (ps I (eO t T k0 s)) L r) := x7_oneOf h ht hT hp hk
set_option maxRecDepth 8192 in
theorem x3_neg (h : cT I t T) (ht : t ≤ 100) (hT : ∀ j, j < t → T j < 128) : ∀ m i b p F, i + m = 100 → m < F → p + m ≤ 600 → f_X3_negated_b4 F 99 (bI b) (nI i) (pm (ps I (p, false)) L r) = some (bI (b != decide (tb t T m p % 2 = 1)), pm (ps I (p + tb t T m p, false)) L r) := by
  intro m
  induction m with
  | zero =>
    intro i b p F h1 h2 h3
    obtain ⟨F, rfl⟩ : ∃ G, F = G + 1 := ⟨F - 1, by omega⟩
    simp (disch := omega) only [f_X3_negated_b4, plit, pn_le]
    rw [if_pos (by omega), pz_zr]
    simp [tb]
  | succ m ih =>
    intro i b p F h1 h2 h3
    obtain ⟨F, rfl⟩ : ∃ G, F = G + 1 := ⟨F - 1, by omega⟩
    have e1 := sx_skip (L := L) (r := r) h ht hT (c := 33) (s := (p, false)) (by decide) (show p < 1000 from by omega)
    have hn : (100 ≤ i) = False := eq_false (by omega)
    have hk : tk t T p false 33 = decide (tl t T p = 34) := rfl
    simp only [hk] at e1
    unfold tb
    by_cases e : tl t T p = 34
    · simp only [e, decide_true, if_true] at e1
      rw [if_pos e]
      have hi1 : ∀ b, f_X3_negated_b31 (f_X3_negated_b4 F) 99 (nI i) (bI b) (pm (ps I (p + 1, false)) L r) = some (bI (b != decide (tb t T m (p + 1) % 2 = 1)), pm (ps I (p + 1 + tb t T m (p + 1), false)) L r) := by
        intro b
        unfold f_X3_negated_b31
        simp only [plit, nI_add]
        exact ih (i + 1) b (p + 1) F (by omega) (by omega) (by omega)
      simp (disch := omega) only [f_X3_negated_b4, plit, pn_le, hn, if_false, pR_99_2, pbs, pO_97, e1, bIn, Bool.true_eq_false]
      have par : ∀ n, decide ((n + 1) % 2 = 1) = !decide (n % 2 = 1) := by
        intro n
        by_cases e2 : n % 2 = 1
        · rw [decide_eq_true e2, decide_eq_false (by omega)]; rfl
        · rw [decide_eq_false e2, decide_eq_true (by omega)]; rfl
      rw [show p + (tb t T m (p + 1) + 1) = p + 1 + tb t T m (p + 1) from by omega, par]
      cases b
      · rw [if_pos rfl, ← bI_t, hi1 true]
        cases decide (tb t T m (p + 1) % 2 = 1) <;> rfl
      · rw [if_neg (by decide), ← bI_f, hi1 false]
        cases decide (tb t T m (p + 1) % 2 = 1) <;> rfl
    · simp only [e, decide_false, Bool.false_eq_true, if_false] at e1
      rw [if_neg e]
      simp (disch := omega) only [f_X3_negated_b4, plit, pn_le, hn, if_false, pR_99_2, pbs, pO_97, e1, bIn, if_true, pz_zr]
      simp
set_option maxRecDepth 8192 in
theorem x3_negated (h : cT I t T) (ht : t ≤ 100) (hT : ∀ j, j < t → T j < 128) {s : Nat × Bool} (hp : s.1 ≤ t) : f_X3_negated 99 (pm (ps I s) L r) = some (bI (vB t T s), pm (ps I (eB t T s)) L r) := by
  obtain ⟨p, f⟩ := s
  simp only at hp
  unfold f_X3_negated
  simp only [plit]
  cases f
  · rw [show f_X3_negated_b4 hb_FU 99 (nI 0) (nI 0) (pm (ps I (p, false)) L r) = f_X3_negated_b4 hb_FU 99 (bI false) (nI 0) (pm (ps I (p, false)) L r) from congrArg (fun x => f_X3_negated_b4 hb_FU 99 x (nI 0) (pm (ps I (p, false)) L r)) bI_f.symm, x3_neg h ht hT 100 0 false p hb_FU (by omega) (by unfold hb_FU; omega) (by omega)]
    unfold vB eB
    simp
  · obtain ⟨F, hF⟩ : ∃ F, hb_FU = F + 1 := ⟨4095, by decide⟩
    have e1 := sx_skip (L := L) (r := r) h ht hT (c := 33) (s := (p, true)) (by decide) (show p < 1000 from by omega)
    have hk : tk t T p true 33 = false := by simp [tk, tn]
    simp only [hk, Bool.false_eq_true, if_false] at e1
    have hn : ((100 : Nat) ≤ 0) = False := by decide
    rw [hF]
    simp (disch := omega) only [f_X3_negated_b4, plit, pn_le, hn, if_false, pR_99_2, pbs, pO_97, e1, bIn, if_true]
    rw [← bI_f, pz_zr]
    unfold vB eB
    simp
/-! the value of an object -/
set_option maxRecDepth 8192 in
theorem x3_value (hR : ph_rep I 1 A) (X : px_an I L A) {o a : Nat} (ho : o < 40) (ha : A o 0 ≠ 0) (hl : (sL 1).contains a = true) (w : pa_wf A) : f_X3_valueOf 99 (nI o) (nI a) (pm I L r) = some (nI (fv A o a), pm I L r) ∧ fv A o a < 2 ^ 31 := by
  have hm : a = 115 ∨ a = 114 ∨ a = 100 ∨ a = 105 ∨ a = 111 ∨ a = 97 ∨ a = 110 ∨ a = 103 := by
    have := List.contains_iff_mem.mp hl
    simpa [sL] using this
  obtain ⟨q4, q5, q6, q7, q8, q9, q10⟩ := (hR.2.2.2 o ho).2 ha
  obtain ⟨y1, y2, y3, y4, y5, y6, y7⟩ := X.2.2.2.2 o ho
  have hd : I 15 o = mI (px_df A o) := (X.2.1.2.2 o ho).1
  have hgr := pa_gr w ho ha
  have hdl : px_df A o ≤ 40 := by
    cases e : px_df A o with
    | zero => omega
    | succ d =>
      have := pr_D_lt (fun s h => pg_S_lt s h) (fun a b h => pg_E_lt w a b h) ((df_D w ho).mp e)
      omega
  have hin := fb_ct_le (fun j => decide (pa_rf A j = o + 1)) 320
  have hou := fb_ct_le (fun j => decide (j / 8 = o) && decide (pa_rf A j ≠ 0)) 320
  have hrt := pd_rt_le w o
  have hso := pa_so_le w ho ha
  have hag : A o 3 ≤ 99 := (w.2.2.2.1 o ho ha).2.1
  have hin' : pa_in A o 320 ≤ 320 := hin
  have hou' : pa_ou A o 320 ≤ 320 := hou
  unfold f_X3_valueOf fv
  rcases hm with e | e | e | e | e | e | e | e
  · subst e
    simp (disch := omega) only [plit, pn_eq, Nat.reduceEqDiff, reduceIte, pR_99_0, pR_99_1, pbs, pR_h_6 hp_1, pA_h_6 hp_1 ho, q6]
    exact ⟨trivial, by omega⟩
  · subst e
    simp (disch := omega) only [plit, pn_eq, Nat.reduceEqDiff, reduceIte, pR_99_0, pR_99_1, pbs, pR_12_6, pA_24 ho, y3]
    exact ⟨trivial, by omega⟩
  · subst e
    simp (disch := omega) only [plit, pn_eq, Nat.reduceEqDiff, reduceIte, pR_99_0, pR_99_1, pbs, pR_12_1, pR_13_1, pA_15 ho, hd, mI_none]
    cases e2 : px_df A o with
    | zero => exact ⟨rfl, by decide⟩
    | succ d =>
      have e3 : ¬ d + 1 = 0 := by omega
      simp only [e3, reduceIte, mI_s, Nat.add_sub_cancel]
      exact ⟨trivial, by omega⟩
  · subst e
    simp (disch := omega) only [plit, pn_eq, Nat.reduceEqDiff, reduceIte, pR_99_0, pR_99_1, pbs, pR_12_7, pA_25 ho, y4]
    exact ⟨trivial, by omega⟩
  · subst e
    simp (disch := omega) only [plit, pn_eq, Nat.reduceEqDiff, reduceIte, pR_99_0, pR_99_1, pbs, pR_12_8, pA_26 ho, y5]
    exact ⟨trivial, by omega⟩
  · subst e
    simp (disch := omega) only [plit, pn_eq, Nat.reduceEqDiff, reduceIte, pR_99_0, pR_99_1, pbs, pR_h_8 hp_1, pA_h_8 hp_1 ho, q8]
    exact ⟨trivial, by omega⟩
  · subst e
    simp (disch := omega) only [plit, pn_eq, Nat.reduceEqDiff, reduceIte, pR_99_0, pR_99_1, pbs, ]
    exact ⟨trivial, by omega⟩
  · subst e
    simp (disch := omega) only [plit, pn_eq, Nat.reduceEqDiff, reduceIte, pR_99_0, pR_99_1, pbs, pR_h_4 hp_1, pA_h_4 hp_1 ho, q4]
    exact ⟨trivial, by omega⟩
set_option maxRecDepth 8192 in
theorem x3_isSo {v op x : Nat} {σ : hb_M} (hv : v < 2 ^ 31) (ho : op < 1000) (hx : x < 2 ^ 31) : f_X3_isSo (nI v) (nI op) (nI x) σ = some (bI (fs v op x), σ) := by
  unfold f_X3_isSo fs
  simp (disch := omega) only [plit, pn_eq, pn_le]
  by_cases e1 : op = 60
  · rw [if_pos e1, if_pos e1]
    by_cases e : x ≤ v
    · rw [if_pos e, decide_eq_false (by omega)]; rfl
    · rw [if_neg e, decide_eq_true (by omega)]; rfl
  rw [if_neg e1, if_neg e1]
  by_cases e2 : op = 61
  · rw [if_pos e2, if_pos e2]
    by_cases e : v = x
    · rw [if_pos e, decide_eq_true e]; rfl
    · rw [if_neg e, decide_eq_false e]; rfl
  rw [if_neg e2, if_neg e2]
  by_cases e : v ≤ x
  · rw [if_pos e, decide_eq_false (by omega)]; rfl
  · rw [if_neg e, decide_eq_true (by omega)]; rfl
/-! a relation -/
set_option maxRecDepth 8192 in
theorem x3_relation (h : cT I t T) (ht : t ≤ 100) (hT : ∀ j, j < t → T j < 128) (hR : ph_rep I 1 A) (X : px_an I L A) (w : pa_wf A) {s : Nat × Bool} (hp : s.1 ≤ t) : fC I L r (fun σ => f_X3_relation 99 σ) s (eN t T 4 (eO t T 2 (eO t T 1 s)), fun o => pa_al A o && fa A o (vO t T s, vO t T (eO t T 1 s), vN t T 4 (eO t T 2 (eO t T 1 s)))) := by
  have g1 := (fG_O (t := t) (T := T) (s := s) (k := 1)).2 hp
  have g2 := (fG_O (t := t) (T := T) (s := eO t T 1 s) (k := 2)).2 g1
  have e1 := sx_oneOf (L := L) (r := r) h ht hT (k0 := 1) (s := s) (by decide) (by omega)
  have e2 := sx_oneOf (L := L) (r := r) h ht hT (k0 := 2) (s := eO t T 1 s) (by decide) (by omega)
  have e3 := sx_number (L := L) (r := r) h ht hT (m := 4) (s := eO t T 2 (eO t T 1 s)) (by decide) (by decide) (by omega)
  obtain ⟨s3, hs3⟩ : ∃ s3, s3 = eN t T 4 (eO t T 2 (eO t T 1 s)) := ⟨_, rfl⟩
  have hun : f_X3_relation 99 (pm (ps I s) L r) = f_X3_relation_b35 hb_FU 99 (mI (if to t T s.1 s.2 1 then tn t T s.1 s.2 else 0)) (mI (if to t T (eO t T 1 s).1 (eO t T 1 s).2 2 then tn t T (eO t T 1 s).1 (eO t T 1 s).2 else 0)) (nI (vN t T 4 (eO t T 2 (eO t T 1 s)))) 0 (nI 0) (pm (ps I s3) L r) := by
    unfold f_X3_relation
    simp only [plit, pR_99_2, pbs, pO_97, e1, e2, e3, hs3]
  unfold fC
  simp only [← hs3]
  rw [hun]
  cases ef : s3.2
  · have k3 : (eO t T 2 (eO t T 1 s)).2 = false := by
      have : (eN t T 4 (eO t T 2 (eO t T 1 s))).2 = false := by rw [← hs3]; exact ef
      exact (eN_ok this).1
    have k2 := eO_ok k3
    have k1 := eO_ok (fG_O.1 k3)
    obtain ⟨a1, a2, a3, a4⟩ := to_lt k1
    obtain ⟨b1, b2, b3, b4⟩ := to_lt k2
    have va : vO t T s = T s.1 := by unfold vO; rw [a3, Nat.add_sub_cancel]
    have vb : vO t T (eO t T 1 s) = T (eO t T 1 s).1 := by unfold vO; rw [b3, Nat.add_sub_cancel]
    have hv : vN t T 4 (eO t T 2 (eO t T 1 s)) < 2 ^ 31 := by
      unfold vN
      split
      · decide
      · have := tv_lt (t := t) hT 4 (eO t T 2 (eO t T 1 s)).1 0
        omega
    have hopb := hT _ b1
    rw [k1, k2, if_pos rfl, if_pos rfl, a3, b3, mI_s, mI_s, va, vb]
    have hRs : ph_rep (ps I s3) 1 A := ph_fr hR (fun a _ _ => ps_a (by omega))
    have Xs : px_an (ps I s3) L A := px_fr X (fun a _ _ _ => ⟨ps_a (by omega), rfl⟩)
    obtain ⟨x, hx⟩ : ∃ x, x = vN t T 4 (eO t T 2 (eO t T 1 s)) := ⟨_, rfl⟩
    obtain ⟨op, hop⟩ : ∃ op, op = T (eO t T 1 s).1 := ⟨_, rfl⟩
    obtain ⟨a, hal⟩ : ∃ a, a = T s.1 := ⟨_, rfl⟩
    rw [← hx, ← hop, ← hal]
    rw [← hx] at hv
    rw [← hop] at hopb
    rw [← hal] at a4
    have hna : ¬ a = 42 ∧ ¬ a = 64 := by
      have := List.contains_iff_mem.mp a4
      constructor
      · intro h; subst h; simp [sL] at this
      · intro h; subst h; simp [sL] at this
    have hl := pm_loop (fun n (y : Int64) i => f_X3_relation_b35 n 99 (nI a) (nI op) (nI x) y (nI i) (pm (ps I s3) L r)) (fun i y => y ||| (if (pa_al A i && fa A i (a, op, x)) = true then hb_mk (fun j => decide (j = i)) else 0)) 40 (out := fun y => some (y, pm (ps I s3) L r)) (by
      intro n y i hi
      have hn : (40 ≤ i) = False := eq_false (by omega)
      have hfa : fa A i (a, op, x) = fs (fv A i a) op x := by unfold fa; rw [if_neg hna.1, if_neg hna.2]
      rw [hfa]
      cases el : pa_al A i
      · simp (disch := omega) only [f_X3_relation_b35, f_X3_relation_b83, f_X3_relation_b84, f_X3_relation_b102, plit, pn_le, hn, if_false, pR_99_2, pbs, pI_97_3, ps_v3, ef, bIn, if_true, pR_99_0, pO_h hp_1, x4_hasObj hp_1 hRs w hi, el, nI_add, Bool.false_and, Bool.false_eq_true]
      · have hai : A i 0 ≠ 0 := by simpa [pa_al] using el
        obtain ⟨v1, v2⟩ := x3_value (r := r) hRs Xs hi hai a4 w
        simp (disch := omega) only [f_X3_relation_b35, f_X3_relation_b83, f_X3_relation_b84, f_X3_relation_b102, plit, pn_le, hn, if_false, pR_99_2, pbs, pI_97_3, ps_v3, ef, bIn, if_true, pR_99_0, pO_h hp_1, x4_hasObj hp_1 hRs w hi, el, pO_99, v1, x3_isSo v2 (show op < 1000 from by omega) hv, nI_add, Bool.true_and, Bool.true_eq_false, x8_memberN hi]
        have n10 : (nI 1 = nI 0) = False := by decide
        cases fs (fv A i a) op x
        · simp
        · simp [n10]) (by
      intro n y
      rw [f_X3_relation_b35, if_pos (by decide)]) 0 hb_FU (by decide)
    rw [pm_fold_set] at hl
    exact ⟨_, hl, fun _ => rfl⟩
  · obtain ⟨F, hF⟩ : ∃ F, hb_FU = F + 1 := ⟨4095, by decide⟩
    have hn : ((40 : Nat) ≤ 0) = False := by decide
    rw [hF]
    simp (disch := omega) only [f_X3_relation_b35, plit, pn_le, hn, if_false, pR_99_2, pbs, pI_97_3, ps_v3, ef, bIn, Bool.true_eq_false]
    exact ⟨_, rfl, fun h => by cases h⟩
end FIL2
