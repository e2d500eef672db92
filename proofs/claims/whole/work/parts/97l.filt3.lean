/-! the filter: the class's descent -/
section FIL3
variable {I J : Nat → Nat → Int32} {L K : Nat → Nat → Int64} {r : Nat → Option Nat} {A : Nat → Nat → Nat} {n : Nat} {H : Nat → Nat → Nat → Nat} {t : Nat} {T : Nat → Nat} {P : Nat → Nat → Nat → Nat} {k : Nat → Bool} {B : Nat}
set_option maxRecDepth 8192 in
theorem pa_fa64 (w : pa_wf A) {o c : Nat} (ho : o < 40) (hc : c < 10) : (pa_al A o && fa A o (64, 0, c)) = (decide (c < A 40 0) && (pa_al A o && (decide (A o 1 = c) || (true && pa_below A (A o 1) c)))) := by
  have h10 := pa_cc10 w
  unfold fa
  simp only [reduceIte, Nat.reduceEqDiff, Bool.true_and]
  cases e : pa_al A o
  · simp
  · have ha : A o 0 ≠ 0 := by simpa [pa_al] using e
    have hok := (w.2.2.2.1 o ho ha).1
    simp only [Bool.true_and]
    by_cases e1 : A o 1 < A 40 0
    · have hb1 : pa_below A (A o 1) c = pa_bl A 11 (A o 1 + 1) c := by unfold pa_below; rw [decide_eq_true e1, Bool.true_and]
      have hb2 : pa_bl A hb_FU (A o 1 + 1) c = pa_bl A 11 (A o 1 + 1) c := pa_bl_fuel w c hb_FU 11 (A o 1 + 1) (by omega) (by unfold hb_FU; omega) (by omega)
      rw [hb1, hb2, decide_eq_true (show A o 1 < 10 from by omega), Bool.true_and]
      by_cases e2 : c < A 40 0
      · rw [decide_eq_true e2, Bool.true_and]
        by_cases e3 : A o 1 = c
        · rw [decide_eq_true e3, Bool.true_or]
          subst e3
          unfold pa_bl
          simp
        · rw [decide_eq_false e3, Bool.false_or]
      · rw [decide_eq_false e2, Bool.false_and]
        cases e4 : pa_bl A 11 (A o 1 + 1) c
        · rfl
        · exact absurd (pa_bl_lt w 11 (A o 1 + 1) (by omega) e4) e2
    · have e5 : ¬ A o 1 < 10 := by omega
      have hb1 : pa_below A (A o 1) c = false := pa_below_no w (Or.inl (by omega))
      rw [decide_eq_false e5, hb1, Bool.false_and, Bool.or_false]
      by_cases e2 : c < A 40 0
      · rw [decide_eq_false (show ¬ A o 1 = c from by omega), Bool.and_false]
      · rw [decide_eq_false e2, Bool.false_and]
set_option maxRecDepth 8192 in
theorem x3_b99 {kF : Nat → Int32 → hb_M → Option (Int64 × hb_M)} (hR : ph_rep I 1 A) (w : pa_wf A) {b : Bool} {x : Int64} : f_X3_unit_b99 kF 99 (bI b) x (pm I L r) = some (if b then hb_mk (pa_al A) &&& (x ^^^ (-1)) else x, pm I L r) := by
  unfold f_X3_unit_b99
  simp only [plit, bIn, pR_99_0, pbs, pO_h hp_1, x4_allObjects hp_1 hR w]
  cases b <;> rfl
set_option maxRecDepth 8192 in
theorem fC_neg {f : hb_M → Option (Int64 × hb_M)} {s : Nat × Bool} {y : (Nat × Bool) × (Nat → Bool)} {b : Bool} {kF : Nat → Int32 → hb_M → Option (Int64 × hb_M)} (hR : ph_rep I 1 A) (w : pa_wf A) (h : fC I L r f s y) : fC I L r (fun σ => (f σ).bind fun z => f_X3_unit_b99 kF 99 (bI b) z.1 z.2) s (y.1, if b then fun o => pa_al A o && !y.2 o else y.2) := by
  obtain ⟨x, h1, h2⟩ := h
  have hRs : ph_rep (ps I y.1) 1 A := ph_fr hR (fun a _ _ => ps_a (by omega))
  refine ⟨if b then hb_mk (pa_al A) &&& (x ^^^ (-1)) else x, ?_, fun e => ?_⟩
  · show (f (pm (ps I s) L r)).bind _ = _
    rw [h1, pbs, x3_b99 hRs w]
  · rw [h2 e]
    cases b
    · rfl
    · exact pb_anot _ _
set_option maxRecDepth 8192 in
theorem x3_atom (h : cT I t T) (ht : t ≤ 100) (hT : ∀ j, j < t → T j < 128) (hR : ph_rep I 1 A) (X : px_an I L A) (w : pa_wf A) {kF : Nat → Int32 → hb_M → Option (Int64 × hb_M)} {s : Nat × Bool} {b : Bool} (hp : s.1 ≤ t) : fC I L r (fun σ => f_X3_unit_b43 kF 99 (bI b) σ) s ((fA t T A s).1, if b then fun o => pa_al A o && !(fA t T A s).2 o else (fA t T A s).2) := by
  have e1 := sx_skip (L := L) (r := r) h ht hT (c := 42) (s := s) (by decide) (by omega)
  have e2 := sx_skip (L := L) (r := r) h ht hT (c := 64) (s := s) (by decide) (by omega)
  have h10 := pa_cc10 w
  unfold fA
  cases k1 : tk t T s.1 s.2 42
  · rw [k1] at e1
    simp only [Bool.false_eq_true, if_false] at e1
    rw [show (s.1, s.2) = s from rfl] at e1
    cases k2 : tk t T s.1 s.2 64
    · rw [k2] at e2
      simp only [Bool.false_eq_true, if_false] at e2 ⊢
      rw [show (s.1, s.2) = s from rfl] at e2
      have hrel := fC_neg (b := b) (kF := kF) hR w (x3_relation (r := r) h ht hT hR X w hp)
      obtain ⟨x, r1, r2⟩ := hrel
      refine ⟨x, ?_, r2⟩
      rw [← r1]
      simp only
      unfold f_X3_unit_b43
      simp only [plit, pR_99_2, pbs, pO_97, e1, e2, bIn, if_true, pO_99]
    · rw [k2] at e2
      simp only [if_true, Bool.false_eq_true, if_false] at e2 ⊢
      obtain ⟨l1, l2, l3⟩ := tk_lt k2
      have e3 := sx_number (L := L) (r := r) h ht hT (m := 1) (s := (s.1 + 1, s.2)) (by decide) (by decide) (show s.1 + 1 < 500 from by omega)
      have hv : vN t T 1 (s.1 + 1, s.2) < 10 := by
        unfold vN
        split
        · decide
        · have := tv_lt (t := t) hT 1 (s.1 + 1) 0
          omega
      obtain ⟨c, hc⟩ : ∃ c, c = vN t T 1 (s.1 + 1, s.2) := ⟨_, rfl⟩
      obtain ⟨s3, hs3⟩ : ∃ s3, s3 = eN t T 1 (s.1 + 1, s.2) := ⟨_, rfl⟩
      rw [← hc, ← hs3] at e3
      rw [← hc] at hv
      rw [← hc, ← hs3]
      have hRs : ph_rep (ps I s3) 1 A := ph_fr hR (fun a _ _ => ps_a (by omega))
      have hset : f_X3_instancesOf 99 (nI c) (pm (ps I s3) L r) = some (hb_mk (fun o => pa_al A o && fa A o (64, 0, c)), pm (ps I s3) L r) := by
        have hm := x4_membersOf (L := L) (r := r) hp_1 hRs w (show c < 12 from by omega) true
        rw [bI_t] at hm
        unfold f_X3_instancesOf
        simp only [plit, pR_99_0, pbs, pO_h hp_1, x4_hasClass hp_1 hRs w, pa_isC_nI w (show c < 2 ^ 31 from by omega), bIn, hm]
        by_cases e : c < A 40 0
        · rw [decide_eq_true e, if_neg (by decide)]
          have hq : hb_mk (fun o => pa_al A o && (decide (A o 1 = c) || (true && pa_below A (A o 1) c))) = hb_mk (fun o => pa_al A o && fa A o (64, 0, c)) := pb_congr (fun o ho => by simp only [pa_fa64 w ho hv, decide_eq_true e, Bool.true_and])
          rw [hq]
        · rw [decide_eq_false e, if_pos rfl]
          have hq : hb_mk (fun o => pa_al A o && fa A o (64, 0, c)) = 0 := pb_zero.mpr (fun o ho => by rw [pa_fa64 w ho hv, decide_eq_false e, Bool.false_and])
          rw [hq]
      refine ⟨if b then hb_mk (pa_al A) &&& (hb_mk (fun o => pa_al A o && fa A o (64, 0, c)) ^^^ (-1)) else hb_mk (fun o => pa_al A o && fa A o (64, 0, c)), ?_, fun _ => ?_⟩
      · show f_X3_unit_b43 kF 99 (bI b) (pm (ps I s) L r) = _
        unfold f_X3_unit_b43
        simp only [plit, pR_99_2, pbs, pO_97, e1, e2, bIn, if_true, Bool.true_eq_false, if_false, e3, pO_99, hset, x3_b99 hRs w]
      · cases b
        · rfl
        · exact pb_anot _ _
  · rw [k1] at e1
    simp only [if_true] at e1 ⊢
    have hRs : ph_rep (ps I (s.1 + 1, s.2)) 1 A := ph_fr hR (fun a _ _ => ps_a (by omega))
    have hq : hb_mk (pa_r A) = hb_mk (fun o => pa_al A o && fa A o (42, 0, 0)) := pb_congr (fun o ho => by unfold pa_r fa; rfl)
    refine ⟨if b then hb_mk (pa_al A) &&& (hb_mk (fun o => pa_al A o && fa A o (42, 0, 0)) ^^^ (-1)) else hb_mk (fun o => pa_al A o && fa A o (42, 0, 0)), ?_, fun _ => ?_⟩
    · show f_X3_unit_b43 kF 99 (bI b) (pm (ps I s) L r) = _
      unfold f_X3_unit_b43
      simp only [plit, pR_99_2, pbs, pO_97, e1, bIn, Bool.true_eq_false, if_false, pR_99_0, pO_h hp_1, x4_allRoots hp_1 hRs w, hq, x3_b99 hRs w]
    · cases b
      · rfl
      · exact pb_anot _ _
set_option maxRecDepth 8192 in
theorem x3_unit (h : cT I t T) (ht : t ≤ 100) (hT : ∀ j, j < t → T j < 128) (hR : ph_rep I 1 A) (X : px_an I L A) (w : pa_wf A) {kF : Nat → Int32 → hb_M → Option (Int64 × hb_M)} {gF : Nat × Bool → (Nat × Bool) × (Nat → Bool)} {d : Nat} (hd : d < 100) (hk : d < 8 → ∀ s, s.1 ≤ t → fC I L r (fun σ => kF 99 (nI (d + 1)) σ) s (gF s)) (hg : ∀ s, fG t s (gF s).1) {s : Nat × Bool} (hp : s.1 ≤ t) : fC I L r (fun σ => f_X3_unit kF 99 (nI d) σ) s (fU t T A gF d s) := by
  have hb := (fG_B (t := t) (T := T) (s := s)).2 hp
  have e0 := x3_negated (L := L) (r := r) h ht hT hp
  obtain ⟨b, hbd⟩ : ∃ b, b = vB t T s := ⟨_, rfl⟩
  obtain ⟨s1, hs1⟩ : ∃ s1, s1 = eB t T s := ⟨_, rfl⟩
  unfold fU
  rw [← hbd, ← hs1] at e0
  rw [← hs1] at hb
  rw [← hbd, ← hs1]
  have hat := x3_atom (r := r) h ht hT hR X w (kF := kF) (b := b) hb
  have hun : f_X3_unit kF 99 (nI d) (pm (ps I s) L r) = if 8 ≤ d then f_X3_unit_b43 kF 99 (bI b) (pm (ps I s1) L r) else (f_X7_skip 97 (nI 40) (pm (ps I s1) L r)).bind fun r4 => if r4.1 = nI 0 then f_X3_unit_b43 kF 99 (bI b) r4.2 else (hb_on r4.2 99 3 (kF 99 (nI (d + 1)) r4.2)).bind fun r6 => (hb_getR r6.2 99 3 2).bind fun r7 => (hb_on r6.2 r7 7 (f_X7_expect r7 (nI 41) r6.2)).bind fun r8 => f_X3_unit_b99 kF 99 (bI b) r6.1 r8 := by
    unfold f_X3_unit
    simp (disch := omega) only [plit, pO_99, e0, pbs, pn_le, pR_99_2, pO_97, nI_add]
  unfold fR
  by_cases e8 : 8 ≤ d
  · rw [if_neg (fun h => by omega)]
    obtain ⟨x, x1, x2⟩ := hat
    exact ⟨x, by show f_X3_unit kF 99 (nI d) (pm (ps I s) L r) = _; rw [hun, if_pos e8]; exact x1, x2⟩
  · have e1 := sx_skip (L := L) (r := r) h ht hT (c := 40) (s := s1) (by decide) (by omega)
    cases k1 : tk t T s1.1 s1.2 40
    · rw [k1] at e1
      simp only [Bool.false_eq_true, if_false] at e1
      rw [show (s1.1, s1.2) = s1 from rfl] at e1
      rw [if_neg (fun h => by cases h.2)]
      obtain ⟨x, x1, x2⟩ := hat
      refine ⟨x, ?_, x2⟩
      show f_X3_unit kF 99 (nI d) (pm (ps I s) L r) = _
      rw [hun, if_neg e8, e1, pbs]
      exact (if_pos (show bI false = nI 0 from rfl)).trans x1
    · rw [k1] at e1
      simp only [if_true] at e1
      rw [if_pos ⟨by omega, rfl⟩]
      obtain ⟨l1, l2, l3⟩ := tk_lt k1
      obtain ⟨x, x1, x2⟩ := hk (by omega) (s1.1 + 1, s1.2) (show s1.1 + 1 ≤ t from l1)
      have x1' : kF 99 (nI (d + 1)) (pm (ps I (s1.1 + 1, s1.2)) L r) = some (x, pm (ps I (gF (s1.1 + 1, s1.2)).1) L r) := x1
      obtain ⟨y, hy⟩ : ∃ y, y = gF (s1.1 + 1, s1.2) := ⟨_, rfl⟩
      have hyl : y.1.1 ≤ t := by rw [hy]; exact (hg (s1.1 + 1, s1.2)).2 l1
      rw [← hy] at x1' x2 ⊢
      have e2 := sx_expect (L := L) (r := r) h ht hT (c := 41) (s := y.1) (by decide) (by omega)
      have hRs : ph_rep (ps I (eX t T 41 y.1)) 1 A := ph_fr hR (fun a _ _ => ps_a (by omega))
      refine ⟨if b then hb_mk (pa_al A) &&& (x ^^^ (-1)) else x, ?_, fun e => ?_⟩
      · show f_X3_unit kF 99 (nI d) (pm (ps I s) L r) = _
        rw [hun, if_neg e8, e1, pbs]
        refine (if_neg (show ¬ bI true = nI 0 from by decide)).trans ?_
        simp only [pO_99, x1', pbs, pR_99_2, pO_97, e2, x3_b99 hRs w]
      · rw [x2 (eX_ok e).1]
        cases b
        · rfl
        · exact pb_anot _ _
/-! the two chains -/
set_option maxRecDepth 8192 in
theorem x3_chain {F : Nat → Int64 → Nat → hb_M → Option (Int64 × hb_M)} {f : hb_M → Option (Int64 × hb_M)} {op : Nat} {g : Bool → Bool → Bool} {g64 : Int64 → Int64 → Int64} {u : Nat × Bool → (Nat × Bool) × (Nat → Bool)} (hg : ∀ p q, g64 (hb_mk p) (hb_mk q) = hb_mk (fun o => g (p o) (q o))) (h : cT I t T) (ht : t ≤ 100) (hT : ∀ j, j < t → T j < 128) (hop : op < 1000) (hF : ∀ n x i (s : Nat × Bool), i < 100 → s.1 ≤ t → F (n + 1) x i (pm (ps I s) L r) = if tk t T s.1 s.2 op then (f (pm (ps I (s.1 + 1, s.2)) L r)).bind fun r5 => F n (g64 x r5.1) (i + 1) r5.2 else some (x, pm (ps I s) L r)) (hF0 : ∀ n x σ, F (n + 1) x 100 σ = some (x, σ)) (hu : ∀ s, s.1 ≤ t → fC I L r f s (u s)) (hm : ∀ s, fG t s (u s).1) : ∀ m i n x (y : (Nat × Bool) × (Nat → Bool)), i + m = 100 → m < n → y.1.1 ≤ t → (y.1.2 = false → x = hb_mk y.2) → ∃ z, F n x i (pm (ps I y.1) L r) = some (z, pm (ps I (fL t T op g u m y).1) L r) ∧ ((fL t T op g u m y).1.2 = false → z = hb_mk (fL t T op g u m y).2) := by
  intro m
  induction m with
  | zero =>
    intro i n x y h1 h2 h3 h4
    obtain ⟨n, rfl⟩ : ∃ k, n = k + 1 := ⟨n - 1, by omega⟩
    have : i = 100 := by omega
    subst this
    exact ⟨x, hF0 n x _, h4⟩
  | succ m ih =>
    intro i n x y h1 h2 h3 h4
    obtain ⟨n, rfl⟩ : ∃ k, n = k + 1 := ⟨n - 1, by omega⟩
    rw [hF n x i y.1 (by omega) h3]
    unfold fL
    cases e : tk t T y.1.1 y.1.2 op
    · exact ⟨x, rfl, h4⟩
    · obtain ⟨l1, l2, l3⟩ := tk_lt e
      obtain ⟨z, z1, z2⟩ := hu (y.1.1 + 1, y.1.2) (show y.1.1 + 1 ≤ t from l1)
      simp only [if_true]
      rw [z1, pbs]
      refine ih (i + 1) n (g64 x z) ((u (y.1.1 + 1, y.1.2)).1, fun o => g (y.2 o) ((u (y.1.1 + 1, y.1.2)).2 o)) (by omega) (by omega) ((hm (y.1.1 + 1, y.1.2)).2 l1) (fun e2 => ?_)
      simp only at e2 ⊢
      rw [h4 ((hm (y.1.1 + 1, y.1.2)).1 e2), z2 e2]
      exact hg _ _
end FIL3
