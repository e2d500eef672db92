/-! the filter: the reference's machine against the descent -/
noncomputable def sv (A : Nat → Nat → Nat) (o : Nat) (q : Nat × Nat × Nat) (V : List Bool) : Option (List Bool) := if q.1 = 200 then (match V with | a :: W => some ((!a) :: W) | [] => none) else if q.1 = 201 then (match V with | a :: b :: W => some ((b && a) :: W) | _ => none) else if q.1 = 202 then (match V with | a :: b :: W => some ((b || a) :: W) | _ => none) else some (fa A o q :: V)
noncomputable def ev (A : Nat → Nat → Nat) (o : Nat) : List (Nat × Nat × Nat) → Option (List Bool)
  | [] => some []
  | q :: l => (ev A o l).bind (sv A o q)
def mG (t : Nat) (T : Nat → Nat) (A : Nat → Nat → Nat) (L : Nat → Nat → Int64) (r : Nat → Option Nat) (d x : Nat) (u : Nat × Bool → (Nat × Bool) × (Nat → Bool)) : Prop := ∀ (F : Nat) (J : Nat → Nat → Int32) (ks : List (Nat × Nat × Nat)) (s : List Nat) (p : Nat), p ≤ t → rT J t T → rM J ks s → sp x s → ks.length + s.length ≤ p → 4096 ≤ F + p → ((u (p, false)).1.2 = true → ∃ K, f_X9_reads_b16 F 130 (nI d) (nI 1) (nI p) (pm J L r) = some (nI (u (p, false)).1.1, pm K L r) ∧ r2 J K) ∧ ((u (p, false)).1.2 = false → ∃ K ks' ops G, f_X9_reads_b16 F 130 (nI d) (nI 1) (nI p) (pm J L r) = f_X9_reads_b16 G 130 (nI d) (nI 0) (nI (u (p, false)).1.1) (pm K L r) ∧ r2 J K ∧ rM K ks' (ops ++ s) ∧ (∀ y ∈ ops, 201 ≤ y ∧ y ≤ x) ∧ 4096 ≤ G + (u (p, false)).1.1 ∧ ks'.length + (ops ++ s).length ≤ (u (p, false)).1.1 ∧ p < (u (p, false)).1.1 ∧ ∀ o, pa_al A o = true → ev A o (em ops ks') = (ev A o ks).map (fun l => (u (p, false)).2 o :: l))
set_option maxRecDepth 8192 in
theorem ev_rep {A : Nat → Nat → Nat} {o : Nat} {E : Option (List Bool)} : ∀ (n : Nat) (k1 : List (Nat × Nat × Nat)) (b : Bool), ev A o k1 = E.map (fun l => b :: l) → ev A o (em (List.replicate n 200) k1) = E.map (fun l => (if n % 2 = 1 then !b else b) :: l) := by
  intro n
  induction n with
  | zero => intro k1 b h; simpa [em] using h
  | succ n ih =>
    intro k1 b h
    show ev A o (em (List.replicate n 200) ((200, 0, 0) :: k1)) = _
    rw [ih ((200, 0, 0) :: k1) (!b) (by
      show (ev A o k1).bind (sv A o (200, 0, 0)) = _
      rw [h]
      cases E with
      | none => rfl
      | some l => simp [sv])]
    by_cases e : n % 2 = 1
    · rw [if_pos e, if_neg (by omega), Bool.not_not]
    · rw [if_neg e, if_pos (by omega)]
set_option maxRecDepth 8192 in
theorem tb_end {t : Nat} {T : Nat → Nat} : ∀ m p, tb t T m p < m → tl t T (p + tb t T m p) ≠ 34 := by
  intro m
  induction m with
  | zero => intro p h; omega
  | succ m ih =>
    intro p h
    unfold tb at h ⊢
    by_cases e : tl t T p = 34
    · rw [if_pos e] at h ⊢
      have := ih (p + 1) (by omega)
      rw [show p + (tb t T m (p + 1) + 1) = p + 1 + tb t T m (p + 1) from by omega]
      exact this
    · rw [if_neg e]
      exact e
section FIL7
variable {I J : Nat → Nat → Int32} {L K : Nat → Nat → Int64} {r : Nat → Option Nat} {A : Nat → Nat → Nat} {n : Nat} {H : Nat → Nat → Nat → Nat} {t : Nat} {T : Nat → Nat} {P : Nat → Nat → Nat → Nat} {k : Nat → Bool} {B : Nat}
set_option maxRecDepth 8192 in
theorem nI_dn (d : Nat) : nI (d + 1) + -nI 1 = nI d := by
  rw [← Int32.sub_eq_add_neg, mI_def, mI_s]
/-! the bangs -/
set_option maxRecDepth 8192 in
theorem r9_bang (ht : t ≤ 100) (hT : ∀ j, j < t → T j < 128) {d : Nat} {ks : List (Nat × Nat × Nat)} {s : List Nat} : ∀ m n p F J, p + m ≤ 1000 → p ≤ t → rT J t T → rM J ks (List.replicate n 200 ++ s) → ks.length + (List.replicate n 200 ++ s).length ≤ p → 4096 ≤ F + p → ∃ K G, f_X9_reads_b16 F 130 (nI d) (nI 1) (nI p) (pm J L r) = f_X9_reads_b16 G 130 (nI d) (nI 1) (nI (p + tb t T m p)) (pm K L r) ∧ r2 J K ∧ rM K ks (List.replicate (n + tb t T m p) 200 ++ s) ∧ ks.length + (List.replicate (n + tb t T m p) 200 ++ s).length ≤ p + tb t T m p ∧ 4096 ≤ G + (p + tb t T m p) := by
  intro m
  induction m with
  | zero =>
    intro n p F J _ hp h hM hl hF
    exact ⟨J, F, rfl, r2_me J, hM, hl, hF⟩
  | succ m ih =>
    intro n p F J hpm hp h hM hl hF
    unfold tb
    by_cases e : tl t T p = 34
    · rw [if_pos e]
      have hpt : p < t := by
        unfold tl at e
        split at e
        · assumption
        · omega
      have hTp : T p = 33 := by
        have : tl t T p = T p + 1 := by unfold tl; rw [if_pos hpt]
        omega
      obtain ⟨F, rfl⟩ : ∃ G, F = G + 1 := ⟨F - 1, by omega⟩
      obtain ⟨K, k1, k2, k3⟩ := r9_waits (L := L) (r := r) (x := 200) (by decide) hM (by omega)
      have n1 : (t ≤ p) = False := eq_false (by omega)
      have n2 : (nI 1 = nI 0) = False := by decide
      obtain ⟨K2, G, g1, g2, g3, g4, g5⟩ := ih (n + 1) (p + 1) F K (by omega) (by omega) (rT_2 h k3) (by rw [List.replicate_succ]; exact k2) (by rw [List.replicate_succ]; simp only [List.cons_append, List.length_cons]; omega) (by omega)
      refine ⟨K2, G, ?_, r2_tr k3 g2, ?_, ?_, ?_⟩
      · rw [show p + (tb t T m (p + 1) + 1) = p + 1 + tb t T m (p + 1) from by omega, ← g1]
        simp (disch := omega) only [f_X9_reads_b16, f_X9_reads_b236, plit, pI_130_6, pbs, h.1, pn_le, n1, n2, if_false, pR_130_5, pA_134, h.2 p hpt, hTp, if_true, pO_130, k1, nI_add]
      · rw [show n + (tb t T m (p + 1) + 1) = n + 1 + tb t T m (p + 1) from by omega]
        exact g3
      · rw [show n + (tb t T m (p + 1) + 1) = n + 1 + tb t T m (p + 1) from by omega]
        omega
      · omega
    · rw [if_neg e]
      exact ⟨J, F, rfl, r2_me J, hM, hl, hF⟩
set_option maxRecDepth 8192 in
theorem r9_unit (ht : t ≤ 100) (hT : ∀ j, j < t → T j < 128) {d : Nat} (hd : d ≤ 8) {gF : Nat × Bool → (Nat × Bool) × (Nat → Bool)} (hk : d < 8 → mG t T A L r (d + 1) 202 gF) (hg : ∀ s, fG t s (gF s).1) (hne : ∀ p, p ≤ t → (gF (p, false)).1.2 = false → tl t T (gF (p, false)).1.1 ≠ 39 ∧ tl t T (gF (p, false)).1.1 ≠ 125) : mG t T A L r d 200 (fU t T A gF d) := by
  intro F J ks s p hp h hM hs hl hF
  obtain ⟨K, G, g1, g2, g3, g4, g5⟩ := r9_bang (L := L) (r := r) ht hT (d := d) (ks := ks) (s := s) 100 0 p F J (by omega) hp h (by simpa using hM) (by simpa using hl) hF
  rw [Nat.zero_add] at g3 g4
  obtain ⟨n, hn⟩ : ∃ n, n = tb t T 100 p := ⟨_, rfl⟩
  have hpt := tb_t (t := t) (T := T) 100 p hp
  have hnb : tl t T (p + n) ≠ 34 := by
    rw [hn]
    by_cases e : tb t T 100 p < 100
    · exact tb_end 100 p e
    · have : ¬ p + tb t T 100 p < t := by omega
      unfold tl
      rw [if_neg this]
      decide
  rw [← hn] at g1 g3 g4 g5 hpt
  have heB : eB t T (p, false) = (p + n, false) := by unfold eB; rw [hn]; rfl
  have hvB : vB t T (p, false) = decide (n % 2 = 1) := by unfold vB; rw [hn]; simp
  have hU1 : (fU t T A gF d (p, false)).1 = (fR t T A gF d (p + n, false)).1 := by unfold fU; rw [heB]
  have hU2 : ∀ o, pa_al A o = true → (fU t T A gF d (p, false)).2 o = if n % 2 = 1 then !(fR t T A gF d (p + n, false)).2 o else (fR t T A gF d (p + n, false)).2 o := by
    intro o ho
    unfold fU
    rw [heB, hvB]
    by_cases e : n % 2 = 1
    · simp [e, ho]
    · simp [e]
  rw [hU1, g1]
  have hKT := rT_2 h g2
  obtain ⟨q, hq⟩ : ∃ q, q = p + n := ⟨_, rfl⟩
  rw [← hq] at g1 g4 g5 hpt hnb hU2 ⊢
  obtain ⟨G, rfl⟩ : ∃ H, G = H + 1 := ⟨G - 1, by omega⟩
  have n2 : (nI 1 = nI 0) = False := by decide
  -- after the unit: the bangs come out
  have hout : ∀ (J1 : Nat → Nat → Int32) (k1 : List (Nat × Nat × Nat)), rM J1 k1 (List.replicate n 200 ++ s) → k1.length + (List.replicate n 200 ++ s).length ≤ 100 → ∃ J2, f_X9_comesOut 130 (nI 200) (pm J1 L r) = some (pm J2 L r) ∧ rM J2 (em (List.replicate n 200) k1) s ∧ r2 J1 J2 ∧ J2 130 22 = J1 130 22 := by
    intro J1 k1 m1 m2
    obtain ⟨J2, c1, c2, c3, c4⟩ := r9_comesOut (L := L) (r := r) (x := 200) (by decide) _ k1 hb_FU J1 m1 m2 (by unfold hb_FU; omega)
    rw [cO_em (fun y hy => by
      have := List.eq_of_mem_replicate hy
      omega) hs] at c2
    exact ⟨J2, c1, c2, c3, c4⟩
  by_cases ep : t ≤ q
  · -- the text ends
    have hqt : q = t := by omega
    have htl : tl t T q = 0 := by unfold tl; rw [if_neg (by omega)]
    have hA1 : fR t T A gF d (q, false) = fA t T A (q, false) := by
      unfold fR
      rw [if_neg]
      intro hh
      have := tk_lt hh.2
      simp only at this
      omega
    have hA2 : (fA t T A (q, false)).1 = (q, true) := by
      unfold fA
      have k1 : ∀ c, tk t T (q, false).1 (q, false).2 c = false := fun c => by
        unfold tk tn
        simp [htl]
      rw [k1, k1]
      have o1 : eO t T 1 (q, false) = (q, true) := by unfold eO; simp [to, tn, htl]
      have o2 : eO t T 2 (q, true) = (q, true) := by unfold eO; simp [to, tn]
      simp only [Bool.false_eq_true, if_false]
      rw [o1, o2, eN_t rfl]
    rw [hA1, hA2]
    refine ⟨fun _ => ⟨K, ?_, g2⟩, fun h => by cases h⟩
    have n1 : (t ≤ q) = True := eq_true ep
    simp (disch := omega) only [f_X9_reads_b16, plit, pI_130_6, pbs, hKT.1, pn_le, n1, n2, if_false, if_true, hqt, Nat.le_refl]
  · have hqt : q < t := by omega
    have n1 : (t ≤ q) = False := eq_false ep
    have htl : tl t T q = T q + 1 := by unfold tl; rw [if_pos hqt]
    have hTq := hT q hqt
    have n3 : (T q = 33) = False := eq_false (by omega)
    have hun : f_X9_reads_b16 (G + 1) 130 (nI d) (nI 1) (nI q) (pm K L r) = f_X9_reads_b56 (f_X9_reads_b16 G) 130 (nI d) (nI 1) (nI q) (nI (T q)) (pm K L r) := by
      simp (disch := omega) only [f_X9_reads_b16, plit, pI_130_6, pbs, hKT.1, pn_le, n1, n2, if_false, pR_130_5, pA_134, hKT.2 q hqt, pn_eq, n3]
    rw [hun]
    have hk40 : tk t T q false 40 = decide (T q = 40) := by
      unfold tk
      rw [show tn t T q false = T q + 1 from htl]
      apply decide_eq_decide.mpr
      omega
    -- an atom
    have hatom : fR t T A gF d (q, false) = fA t T A (q, false) → f_X9_reads_b56 (f_X9_reads_b16 G) 130 (nI d) (nI 1) (nI q) (nI (T q)) (pm K L r) = f_X9_reads_b91 (f_X9_reads_b16 G) 130 (nI d) (nI 1) (nI q) (nI (T q)) (pm K L r) → ((fR t T A gF d (q, false)).1.2 = true → ∃ K2, f_X9_reads_b56 (f_X9_reads_b16 G) 130 (nI d) (nI 1) (nI q) (nI (T q)) (pm K L r) = some (nI (fR t T A gF d (q, false)).1.1, pm K2 L r) ∧ r2 J K2) ∧ ((fR t T A gF d (q, false)).1.2 = false → ∃ K2 ks' ops G2, f_X9_reads_b56 (f_X9_reads_b16 G) 130 (nI d) (nI 1) (nI q) (nI (T q)) (pm K L r) = f_X9_reads_b16 G2 130 (nI d) (nI 0) (nI (fR t T A gF d (q, false)).1.1) (pm K2 L r) ∧ r2 J K2 ∧ rM K2 ks' (ops ++ s) ∧ (∀ y ∈ ops, 201 ≤ y ∧ y ≤ 200) ∧ 4096 ≤ G2 + (fR t T A gF d (q, false)).1.1 ∧ ks'.length + (ops ++ s).length ≤ (fR t T A gF d (q, false)).1.1 ∧ p < (fR t T A gF d (q, false)).1.1 ∧ ∀ o, pa_al A o = true → ev A o (em ops ks') = (ev A o ks).map (fun l => (fU t T A gF d (p, false)).2 o :: l)) := by
      intro e1 e2
      have e1' : ∀ o, (fR t T A gF d (q, false)).2 o = (fA t T A (q, false)).2 o := fun o => by rw [e1]
      rw [e2, e1]
      obtain ⟨K2, v, a1, a2, a3, a4⟩ := r9_atom (A := A) (L := L) (r := r) hKT ht hT hqt g3 (by omega)
      unfold f_X9_reads_b91
      simp only [plit, n2, if_false, pO_130, a1, pbs]
      have hle := (fG_A (t := t) (T := T) (A := A) (s := (q, false))).2 (show q ≤ t from hpt)
      refine ⟨fun ef => ?_, fun ef => ?_⟩
      · have hv := a3 ef
        subst hv
        have hne1 : (nI (fA t T A (q, false)).1.1 = -nI 1) = False := by
          have : (mI ((fA t T A (q, false)).1.1 + 1) = -nI 1) = ((fA t T A (q, false)).1.1 + 1 = 0) := mI_none (by omega)
          rw [mI_s] at this
          rw [this]
          simp
        simp only [hne1, if_false]
        exact ⟨K2, rfl, r2_tr g2 a2⟩
      · obtain ⟨b1, b2, w0, b3, b4, b5, b6, b7⟩ := a4 ef
        subst b1
        have hadv : q < (fA t T A (q, false)).1.1 := by
          have hz := ef
          unfold fA at hz ⊢
          by_cases z1 : tk t T (q, false).1 (q, false).2 42 = true
          · rw [if_pos z1]
            exact Nat.lt_succ_self q
          · rw [if_neg z1] at hz ⊢
            by_cases z2 : tk t T (q, false).1 (q, false).2 64 = true
            · rw [if_pos z2] at hz ⊢
              have := (eN_ok hz).2.1
              exact Nat.lt_of_lt_of_le (Nat.lt_succ_self q) (by simp only at this ⊢; omega)
            · rw [if_neg z2] at hz ⊢
              have z3 := eN_ok hz
              have z4 := eO_ok z3.1
              have z5 := eO_ok (fG_O.1 z3.1)
              have e3 : (eO t T 1 (q, false)).1 = q + 1 := by unfold eO; simp only [z5, if_true]
              have e4 : (eO t T 2 (eO t T 1 (q, false))).1 = q + 2 := by
                show (if to t T (eO t T 1 (q, false)).1 (eO t T 1 (q, false)).2 2 then (eO t T 1 (q, false)).1 + 1 else (eO t T 1 (q, false)).1) = q + 2
                rw [z4, if_pos rfl, e3]
              show q < (eN t T 4 (eO t T 2 (eO t T 1 (q, false)))).1
              have := z3.2.1
              omega
        simp only [if_true, pI_130_22, pbs, b2]
        obtain ⟨K3, c1, c2, c3, c4⟩ := hout K2 (w0 :: ks) b3 (by simp only [List.length_cons]; omega)
        simp only [pO_130, c1, pbs, f_X9_reads_b236]
        refine ⟨K3, em (List.replicate n 200) (w0 :: ks), [], G, rfl, r2_tr g2 (r2_tr a2 c3), c2, (fun y hy => by cases hy), by omega, ?_, by omega, fun o ho => ?_⟩
        · rw [em_len]
          simp only [List.length_append, List.length_replicate, List.length_cons, List.nil_append] at g4 ⊢
          omega
        · show ev A o (em (List.replicate n 200) (w0 :: ks)) = _
          rw [hU2 o ho, e1' o]
          refine ev_rep n (w0 :: ks) ((fA t T A (q, false)).2 o) ?_
          show (ev A o ks).bind (sv A o w0) = _
          have hsv : sv A o w0 = fun V => some ((fA t T A (q, false)).2 o :: V) := by
            funext V
            unfold sv
            rw [if_neg (by omega), if_neg (by omega), if_neg (by omega), b7]
            simp [ho]
          rw [hsv]
          cases ev A o ks <;> rfl
    by_cases e40 : T q = 40
    · by_cases e8 : d = 8
      · -- too deep
        have hfR : fR t T A gF d (q, false) = fA t T A (q, false) := by
          unfold fR
          rw [if_neg (fun hh => by omega)]
        have hA2 : (fA t T A (q, false)).1 = (q, true) := by
          unfold fA
          have k1 : ∀ c, c ≠ 40 → tk t T (q, false).1 (q, false).2 c = false := fun c hc => by
            unfold tk
            rw [show tn t T (q, false).1 (q, false).2 = T q + 1 from htl]
            exact decide_eq_false (by omega)
          rw [k1 42 (by decide), k1 64 (by decide)]
          have o1 : eO t T 1 (q, false) = (q, true) := by
            have : to t T q false 1 = false := by
              unfold to
              rw [show tn t T q false = T q + 1 from htl, e40]
              rfl
            unfold eO
            simp [this]
          have o2 : eO t T 2 (q, true) = (q, true) := by unfold eO; simp [to, tn]
          simp only [Bool.false_eq_true, if_false]
          rw [o1, o2, eN_t rfl]
        rw [hfR, hA2]
        refine ⟨fun _ => ⟨K, ?_, g2⟩, fun h => by cases h⟩
        unfold f_X9_reads_b56
        simp (disch := omega) only [plit, n2, if_false, e40, e8, if_true]
      · have hd8 : d < 8 := by omega
        have hfR : fR t T A gF d (q, false) = (eX t T 41 (gF (q + 1, false)).1, (gF (q + 1, false)).2) := by
          unfold fR
          rw [if_pos ⟨hd8, by rw [show tk t T (q, false).1 (q, false).2 40 = tk t T q false 40 from rfl, hk40]; exact decide_eq_true e40⟩]
        rw [hfR] at hU2
        rw [hfR]
        have n4 : (d = 8) = False := eq_false e8
        obtain ⟨K1, w1, w2, w3⟩ := r9_waits (L := L) (r := r) (x := 203) (by decide) g3 (by omega)
        have hun2 : f_X9_reads_b56 (f_X9_reads_b16 G) 130 (nI d) (nI 1) (nI q) (nI (T q)) (pm K L r) = f_X9_reads_b16 G 130 (nI (d + 1)) (nI 1) (nI (q + 1)) (pm K1 L r) := by
          unfold f_X9_reads_b56 f_X9_reads_b236
          simp (disch := omega) only [plit, n2, if_false, e40, if_true, pn_eq, n4, pO_130, w1, pbs, nI_add]
        rw [hun2]
        have hK1 := rT_2 hKT w3
        obtain ⟨i1, i2⟩ := hk hd8 G K1 ks (203 :: (List.replicate n 200 ++ s)) (q + 1) (by omega) hK1 w2 (fun y l hy => by
          have := (List.cons.inj hy).1
          exact Or.inl this.symm) (by simp only [List.length_cons]; omega) (by omega)
        obtain ⟨y, hy⟩ : ∃ y, y = gF (q + 1, false) := ⟨_, rfl⟩
        have hyl : y.1.1 ≤ t := by rw [hy]; exact (hg (q + 1, false)).2 (show q + 1 ≤ t from hqt)
        have hne2 := hne (q + 1) hqt
        rw [← hy] at i1 i2 hU2 hne2 ⊢
        cases ef : y.1.2
        · obtain ⟨K2, ks', ops, G2, j1, j2, j3, j4, j5, j6, j7, j8⟩ := i2 ef
          obtain ⟨hn39, hn125⟩ := hne2 ef
          have hy1 : y.1 = (y.1.1, false) := by rw [← ef]
          obtain ⟨q2, hq2⟩ : ∃ q2, q2 = y.1.1 := ⟨_, rfl⟩
          rw [← hq2] at j1 j5 j6 j7 hyl hn39 hn125 hy1
          rw [hy1, j1]
          obtain ⟨G2, rfl⟩ : ∃ H, G2 = H + 1 := ⟨G2 - 1, by omega⟩
          have hK2 := rT_2 hK1 j2
          have fr2 := r2_tr g2 (r2_tr w3 j2)
          have nd0 : (d + 1 ≤ 0) = False := by simp
          by_cases et : t ≤ q2
          · have hq2t : q2 = t := by omega
            have htl2 : tl t T q2 ≠ 41 + 1 := by unfold tl; rw [if_neg (by omega)]; decide
            rw [eX_0 htl2]
            refine ⟨fun _ => ⟨K2, ?_, fr2⟩, fun h => by cases h⟩
            simp (disch := omega) only [f_X9_reads_b16, plit, pI_130_6, pbs, hK2.1, pn_le, hq2t, Nat.le_refl, if_true, nd0, if_false]
          · have hlt2 : q2 < t := by omega
            have htl2 : tl t T q2 = T q2 + 1 := by unfold tl; rw [if_pos hlt2]
            have hTq2 := hT q2 hlt2
            have m1 : (t ≤ q2) = False := eq_false et
            have m38 : (T q2 = 38) = False := eq_false (by omega)
            have m124 : (T q2 = 124) = False := eq_false (by omega)
            by_cases e41 : T q2 = 41
            · rw [eX_1 (show tl t T q2 = 41 + 1 from by omega)]
              refine ⟨(fun h => by cases h), fun _ => ?_⟩
              obtain ⟨K3, c1, c2, c3, c4⟩ := r9_comesOut (L := L) (r := r) (x := 202) (by decide) _ ks' hb_FU K2 j3 (by omega) (by unfold hb_FU; omega)
              rw [cO_em (fun z hz => by have := j4 z hz; omega) (fun z l hz => by
                have := (List.cons.inj hz).1
                exact Or.inl this.symm)] at c2
              obtain ⟨p1, p2⟩ := r9_pop c2
              have h21 : K3 130 21 = nI ((List.replicate n 200 ++ s).length + 1) := c2.2.1
              obtain ⟨K4, z1, z2, z3, z4⟩ := hout _ (em ops ks') p1 (by
                rw [em_len]
                simp only [List.length_append, List.length_cons] at j6 ⊢
                omega)
              have c1' : f_X9_comesOut 130 (nI 202) (pm K2 L r) = some (pm K3 L r) := c1
              refine ⟨K4, em (List.replicate n 200) (em ops ks'), [], G2, ?_, r2_tr fr2 (r2_tr c3 (r2_tr p2 z3)), z2, (fun y hy => by cases hy), by simp only; omega, ?_, by simp only; omega, fun o ho => ?_⟩
              · simp (disch := omega) only [f_X9_reads_b16, f_X9_reads_b56, f_X9_reads_b91, f_X9_reads_b236, plit, pI_130_6, pbs, hK2.1, pn_le, m1, if_false, pR_130_5, pA_134, hK2.2 q2 hlt2, if_true, pn_eq, e41, m38, m124, Nat.reduceEqDiff, nd0, pO_130, c1', pI_130_21, h21, mI_def, mI_s, pP_130_21, z1, nI_dn, nI_add]
              · rw [em_len, em_len]
                simp only [List.length_append, List.length_cons, List.length_replicate, List.nil_append] at j6 ⊢
                omega
              · show ev A o (em (List.replicate n 200) (em ops ks')) = _
                rw [hU2 o ho]
                exact ev_rep n (em ops ks') (y.2 o) (j8 o ho)
            · rw [eX_0 (show tl t T q2 ≠ 41 + 1 from by omega)]
              refine ⟨fun _ => ⟨K2, ?_, fr2⟩, fun h => by cases h⟩
              have m41 : (T q2 = 41) = False := eq_false e41
              simp (disch := omega) only [f_X9_reads_b16, f_X9_reads_b56, f_X9_reads_b91, plit, pI_130_6, pbs, hK2.1, pn_le, m1, if_false, pR_130_5, pA_134, hK2.2 q2 hlt2, if_true, pn_eq, m38, m124, m41]
        · obtain ⟨K2, j1, j2⟩ := i1 ef
          rw [eX_t ef]
          refine ⟨fun _ => ⟨K2, j1, r2_tr g2 (r2_tr w3 j2)⟩, fun h => ?_⟩
          rw [ef] at h
          cases h
    · have hfR : fR t T A gF d (q, false) = fA t T A (q, false) := by
        unfold fR
        rw [if_neg]
        intro hh
        have := hh.2
        rw [show tk t T (q, false).1 (q, false).2 40 = tk t T q false 40 from rfl, hk40, decide_eq_false e40] at this
        cases this
      refine hatom hfR ?_
      unfold f_X9_reads_b56
      simp (disch := omega) only [plit, n2, if_false, pn_eq, e40]
end FIL7
