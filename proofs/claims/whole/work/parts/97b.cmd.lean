/-! commands: how they are read -/
def eN (t : Nat) (T : Nat → Nat) (m : Nat) (s : Nat × Bool) : Nat × Bool := if s.2 then s else (s.1 + tc t T m s.1, decide (tc t T m s.1 = 0))
def vN (t : Nat) (T : Nat → Nat) (m : Nat) (s : Nat × Bool) : Nat := if s.2 then 0 else tv t T m s.1 0
def eX (t : Nat) (T : Nat → Nat) (c : Nat) (s : Nat × Bool) : Nat × Bool := (if tk t T s.1 s.2 c then s.1 + 1 else s.1, s.2 || !tk t T s.1 s.2 c)
def eZ (t : Nat) (T : Nat → Nat) (s : Nat × Bool) : Nat × Bool := if tk t T s.1 s.2 45 then (s.1 + 1, s.2) else eN t T 2 s
def c2 (t : Nat) (T : Nat → Nat) (p : Nat) : Nat × Bool := eX t T 44 (eN t T 2 (p + 1, false))
def c3 (t : Nat) (T : Nat → Nat) (p : Nat) : Nat × Bool := eX t T 44 (eN t T 2 (c2 t T p))
def cX (t : Nat) (T : Nat → Nat) (p : Nat) : Nat := vN t T (if T p = 97 ∨ T p = 110 then 1 else 2) (p + 1, false)
def cY (t : Nat) (T : Nat → Nat) (p : Nat) : Nat := vN t T 2 (c2 t T p)
def cZ (t : Nat) (T : Nat → Nat) (p : Nat) : Nat := if tk t T (c3 t T p).1 (c3 t T p).2 45 then 0 else vN t T 2 (c3 t T p) + 1
/-- where a command that begins at p ends, and whether it is wrong there -/
def cc (t : Nat) (T : Nat → Nat) (p : Nat) : Nat × Bool := if to t T p false 3 then (if T p = 43 ∨ T p = 45 then eX t T 59 (eN t T 2 (c2 t T p)) else if T p = 97 ∨ T p = 110 then eX t T 59 (eN t T 1 (p + 1, false)) else if T p = 115 then eX t T 59 (eZ t T (c3 t T p)) else eX t T 59 (p + 1, false)) else (p, true)
def cmS (t : Nat) (T : Nat → Nat) (p : Nat) (o x y z : Int32) : Prop := o = nI (T p) ∧ (T p ≠ 119 → T p ≠ 99 → x = nI (cX t T p)) ∧ ((T p = 43 ∨ T p = 45 ∨ T p = 115) → y = nI (cY t T p)) ∧ (T p = 115 → z = mI (cZ t T p))
def ps (I : Nat → Nat → Int32) (s : Nat × Bool) : Nat → Nat → Int32 := pt I s.1 s.2
set_option maxRecDepth 8192 in
theorem ps_up {I : Nat → Nat → Int32} {s : Nat × Bool} {a j : Nat} {x : Int32} (h : a ≠ 97) : up2 (ps I s) a j x = ps (up2 I a j x) s := by
  funext b i
  unfold ps pt up2
  by_cases e2 : b = 97
  · subst e2
    have e3 : ¬ (97 : Nat) = a := Ne.symm h
    simp [e3]
  · simp [e2]
set_option maxRecDepth 8192 in
theorem ps_a {I : Nat → Nat → Int32} {s : Nat × Bool} {a : Nat} (h : a ≠ 97) : ps I s a = I a := pt_a h
set_option maxRecDepth 8192 in
theorem ps_self {I : Nat → Nat → Int32} {p : Nat} {f : Bool} (h2 : I 97 2 = nI p) (h3 : I 97 3 = bI f) : ps I (p, f) = I := by
  funext b i
  unfold ps pt up2
  by_cases e : b = 97 <;> by_cases e2 : i = 2 <;> by_cases e3 : i = 3 <;> simp [e, e2, e3, h2, h3]
set_option maxRecDepth 8192 in
theorem eN_le (t : Nat) (T : Nat → Nat) (m : Nat) (s : Nat × Bool) : (eN t T m s).1 ≤ s.1 + m := by
  unfold eN
  have := tc_le t T m s.1
  split
  · omega
  · show s.1 + tc t T m s.1 ≤ _
    omega
set_option maxRecDepth 8192 in
theorem eX_le (t : Nat) (T : Nat → Nat) (c : Nat) (s : Nat × Bool) : (eX t T c s).1 ≤ s.1 + 1 := by
  unfold eX
  show (if tk t T s.1 s.2 c then s.1 + 1 else s.1) ≤ _
  split <;> omega
set_option maxRecDepth 8192 in
theorem eZ_le (t : Nat) (T : Nat → Nat) (s : Nat × Bool) : (eZ t T s).1 ≤ s.1 + 2 := by
  unfold eZ
  split
  · show s.1 + 1 ≤ _
    omega
  · exact eN_le t T 2 s
section CMD
variable {I J : Nat → Nat → Int32} {L K : Nat → Nat → Int64} {r : Nat → Option Nat} {A : Nat → Nat → Nat} {n : Nat} {H : Nat → Nat → Nat → Nat} {t : Nat} {T : Nat → Nat} {P : Nat → Nat → Nat → Nat} {k : Nat → Bool} {B : Nat}
set_option maxRecDepth 8192 in
theorem cT_up {a j : Nat} {x : Int32} (h : cT I t T) (h1 : a ≠ 97) (h2 : a ≠ 98) : cT (up2 I a j x) t T := by
  unfold cT
  rw [up2_row _ _ _ (Ne.symm h1), up2_row _ _ _ (Ne.symm h2)]
  exact h
set_option maxRecDepth 8192 in
theorem sx_number (h : cT I t T) (ht : t ≤ 100) (hT : ∀ j, j < t → T j < 128) {m : Nat} {s : Nat × Bool} (hm : m ≤ 4) (hm0 : 0 < m) (hp : s.1 < 500) : f_X7_number 97 (nI m) (pm (ps I s) L r) = some (nI (vN t T m s), pm (ps I (eN t T m s)) L r) := by
  obtain ⟨p, f⟩ := s
  cases f
  · exact x7_number h ht hT hm hp
  · exact x7_number_f h ht hm hm0 hp
set_option maxRecDepth 8192 in
theorem sx_expect (h : cT I t T) (ht : t ≤ 100) (hT : ∀ j, j < t → T j < 128) {c : Nat} {s : Nat × Bool} (hc : c < 1000) (hp : s.1 < 500) : f_X7_expect 97 (nI c) (pm (ps I s) L r) = some (pm (ps I (eX t T c s)) L r) := x7_expect h ht hT (by omega) hc
set_option maxRecDepth 8192 in
theorem x1_pair (h : cT I t T) (ht : t ≤ 100) (hT : ∀ j, j < t → T j < 128) {i p : Nat} (hi : i < 100) (h7 : I 100 7 = nI i) (hp : p < 400) : f_X1_readPair 100 (pm (ps I (p + 1, false)) L r) = some (pm (ps (up2 (up2 I 102 i (nI (vN t T 2 (p + 1, false)))) 103 i (nI (cY t T p))) (eN t T 2 (c2 t T p))) L r) := by
  have b1 := eN_le t T 2 (p + 1, false)
  have b2 := eX_le t T 44 (eN t T 2 (p + 1, false))
  have e1 := sx_number (L := L) (r := r) h ht hT (m := 2) (s := (p + 1, false)) (by decide) (by decide) (show p + 1 < 500 from by omega)
  have e2 := sx_expect (I := up2 I 102 i (nI (vN t T 2 (p + 1, false)))) (L := L) (r := r) (cT_up h (by decide) (by decide)) ht hT (c := 44) (s := eN t T 2 (p + 1, false)) (by decide) (by omega)
  have e3 := sx_number (I := up2 I 102 i (nI (vN t T 2 (p + 1, false)))) (L := L) (r := r) (cT_up h (by decide) (by decide)) ht hT (m := 2) (s := eX t T 44 (eN t T 2 (p + 1, false))) (by decide) (by decide) (by omega)
  have u : ∀ x, up2 I 102 i x 100 7 = nI i := fun x => by rw [up2_ne (by decide)]; exact h7
  unfold f_X1_readPair cY c2
  simp (disch := decide) only [plit, pR_100_4, pR_100_5, pR_100_2, pI_100_7, pbs, ps_a, h7, u, pO_97, e1, pS_102 hi, pS_103 hi, ps_up, e2, e3]
set_option maxRecDepth 8192 in
theorem x1_end (h : cT I t T) (ht : t ≤ 100) (hT : ∀ j, j < t → T j < 128) {s : Nat × Bool} (hp : s.1 < 500) : f_X1_readOne_b152 100 (pm (ps I s) L r) = some (pm (ps I (eX t T 59 s)) L r) := by
  unfold f_X1_readOne_b152
  simp only [plit, pR_100_2, pbs, pO_97, sx_expect h ht hT (c := 59) (by decide) hp]
set_option maxRecDepth 8192 in
theorem to_ex {p : Nat} (h : to t T p false 3 = true) : p < t ∧ tn t T p false = T p + 1 ∧ (T p = 110 ∨ T p = 97 ∨ T p = 119 ∨ T p = 99 ∨ T p = 115 ∨ T p = 43 ∨ T p = 45) := by
  unfold to at h
  simp only [Bool.and_eq_true, decide_eq_true_eq] at h
  have hp : p < t := by
    by_cases e : p < t
    · exact e
    · exact absurd (show tn t T p false = 0 from by simp [tn, tl, e]) h.1
  have he : tn t T p false = T p + 1 := by simp [tn, tl, hp]
  refine ⟨hp, he, ?_⟩
  rw [he, Nat.add_sub_cancel] at h
  have := List.contains_iff_mem.mp h.2
  simpa [sL] using this
/-! one command is read -/
set_option maxRecDepth 8192 in
theorem x1_one (h : cT I t T) (ht : t ≤ 100) (hT : ∀ j, j < t → T j < 128) {i p : Nat} (hi : i < 100) (h7 : I 100 7 = nI i) (hp : p < 300) : ∃ J, f_X1_readOne 100 (pm (ps I (p, false)) L r) = some (pm (ps J (cc t T p)) L r) ∧ (∀ a, (a < 101 ∨ 104 < a) → J a = I a) ∧ (∀ a j, j ≠ i → J a j = I a j) ∧ ((cc t T p).2 = false → cmS t T p (J 101 i) (J 102 i) (J 103 i) (J 104 i)) := by
  have e1 := x7_oneOf (L := L) (r := r) h ht hT (p := p) (k0 := 3) (f := false) (by omega) (by decide)
  rw [show pt I p false = ps I (p, false) from rfl] at e1
  have u7 : ∀ (a j : Nat) (x : Int32) (J : Nat → Nat → Int32), a ≠ 100 → J 100 7 = nI i → up2 J a j x 100 7 = nI i := fun a j x J ha hJ => by rw [up2_ne (Ne.symm ha)]; exact hJ
  have b1 := eN_le t T 2 (p + 1, false)
  have b2 := eX_le t T 44 (eN t T 2 (p + 1, false))
  have b3 := eN_le t T 2 (c2 t T p)
  have b4 := eX_le t T 44 (eN t T 2 (c2 t T p))
  have b5 := eZ_le t T (c3 t T p)
  have b6 := eN_le t T 1 (p + 1, false)
  cases eo : to t T p false 3
  · have hcc : cc t T p = (p, true) := by unfold cc; rw [eo]; rfl
    rw [hcc]
    rw [eo] at e1
    refine ⟨up2 I 101 i (-nI 1), ?_, fun a ha => up2_a (by omega), fun a j hj => up2_nj hj, fun h => by cases h⟩
    have e9 := x1_end (I := up2 I 101 i (-nI 1)) (L := L) (r := r) (cT_up h (by decide) (by decide)) ht hT (s := (p, true)) (show p < 500 from by omega)
    rw [show eX t T 59 (p, true) = (p, true) from by simp [eX, tk, tn]] at e9
    have u71 : up2 I 101 i (-nI 1) 100 7 = nI i := u7 101 i _ I (by decide) h7
    have m1 : ∀ c, c < 1000 → (-nI 1 = nI c) = False := fun c hc => by rw [← mI_0, mI_nI (by omega) (by omega)]; simp
    unfold f_X1_readOne
    simp only [Bool.false_eq_true, if_false, Bool.not_false, Bool.or_true, mI_0] at e1
    rw [show pt I p true = ps I (p, true) from rfl] at e1
    simp (maxSteps := 3000000) (disch := omega) only [plit, pR_100_3, pI_100_7, pR_100_2, pbs, ps_a, h7, pO_97, e1, pS_101 hi, ps_up, u71, pA_101 hi, up2_eq, m1, reduceIte, e9]
  · obtain ⟨hpt, htn, hop⟩ := to_ex eo
    have hTp := hT p hpt
    rw [eo, htn] at e1
    simp only [if_true, Bool.not_true, Bool.or_false, mI_s] at e1
    rw [show pt I (p + 1) false = ps I (p + 1, false) from rfl] at e1
    obtain ⟨I1, hI1⟩ : ∃ I1, I1 = up2 I 101 i (nI (T p)) := ⟨_, rfl⟩
    have hc1 : cT I1 t T := by rw [hI1]; exact cT_up h (by decide) (by decide)
    have h71 : I1 100 7 = nI i := by rw [hI1, up2_ne (by decide)]; exact h7
    have ho1 : I1 101 i = nI (T p) := by rw [hI1, up2_eq]
    have hf1 : ∀ a, a ≠ 101 → I1 a = I a := fun a ha => by rw [hI1, up2_a ha]
    have hj1 : ∀ a j, j ≠ i → I1 a j = I a j := fun a j hj => by rw [hI1, up2_nj hj]
    have hpr := x1_pair (L := L) (r := r) hc1 ht hT hi h71 (show p < 400 from by omega)
    have e2 := sx_number (L := L) (r := r) hc1 ht hT (m := 1) (s := (p + 1, false)) (by decide) (by decide) (show p + 1 < 500 from by omega)
    have hc12 : ∀ x, cT (up2 I1 102 i x) t T := fun x => cT_up hc1 (by decide) (by decide)
    have hc13 : ∀ x y, cT (up2 (up2 I1 102 i x) 103 i y) t T := fun x y => cT_up (hc12 x) (by decide) (by decide)
    rcases hop with e | e | e | e | e | e | e
    · have hcc : cc t T p = eX t T 59 (eN t T 1 (p + 1, false)) := by unfold cc; rw [eo, e]; rfl
      have e9 := x1_end (L := L) (r := r) (hc12 (nI (vN t T 1 (p + 1, false)))) ht hT (s := eN t T 1 (p + 1, false)) (by omega)
      refine ⟨up2 I1 102 i (nI (vN t T 1 (p + 1, false))), ?_, fun a ha => by rw [up2_a (by omega), hf1 a (by omega)], fun a j hj => by rw [up2_nj hj, hj1 a j hj], fun _ => ⟨by rw [up2_ne (by decide)]; exact ho1, fun _ _ => by rw [up2_eq]; unfold cX; rw [if_pos (Or.inr e)], fun h => by omega, fun h => by omega⟩⟩
      rw [hcc]
      rw [e] at e1 ho1 hI1
      unfold f_X1_readOne
      simp (maxSteps := 3000000) (disch := omega) only [plit, pR_100_3, pI_100_7, pR_100_2, pbs, ps_a, h7, pO_97, e1, pS_101 hi, ps_up, ← hI1, h71, pA_101 hi, ho1, pn_eq, Nat.reduceEqDiff, reduceIte, pR_100_4, e2, pS_102 hi, e9]
    · have hcc : cc t T p = eX t T 59 (eN t T 1 (p + 1, false)) := by unfold cc; rw [eo, e]; rfl
      have e9 := x1_end (L := L) (r := r) (hc12 (nI (vN t T 1 (p + 1, false)))) ht hT (s := eN t T 1 (p + 1, false)) (by omega)
      refine ⟨up2 I1 102 i (nI (vN t T 1 (p + 1, false))), ?_, fun a ha => by rw [up2_a (by omega), hf1 a (by omega)], fun a j hj => by rw [up2_nj hj, hj1 a j hj], fun _ => ⟨by rw [up2_ne (by decide)]; exact ho1, fun _ _ => by rw [up2_eq]; unfold cX; rw [if_pos (Or.inl e)], fun h => by omega, fun h => by omega⟩⟩
      rw [hcc]
      rw [e] at e1 ho1 hI1
      unfold f_X1_readOne
      simp (maxSteps := 3000000) (disch := omega) only [plit, pR_100_3, pI_100_7, pR_100_2, pbs, ps_a, h7, pO_97, e1, pS_101 hi, ps_up, ← hI1, h71, pA_101 hi, ho1, pn_eq, Nat.reduceEqDiff, reduceIte, pR_100_4, e2, pS_102 hi, e9]
    · have hcc : cc t T p = eX t T 59 (p + 1, false) := by unfold cc; rw [eo, e]; rfl
      have e9 := x1_end (L := L) (r := r) hc1 ht hT (s := (p + 1, false)) (show p + 1 < 500 from by omega)
      refine ⟨I1, ?_, fun a ha => hf1 a (by omega), hj1, fun _ => ⟨ho1, fun h1 h2 => by omega, fun h => by omega, fun h => by omega⟩⟩
      rw [hcc]
      rw [e] at e1 ho1 hI1
      unfold f_X1_readOne
      simp (maxSteps := 3000000) (disch := omega) only [plit, pR_100_3, pI_100_7, pR_100_2, pbs, ps_a, h7, pO_97, e1, pS_101 hi, ps_up, ← hI1, h71, pA_101 hi, ho1, pn_eq, Nat.reduceEqDiff, reduceIte, e9]
    · have hcc : cc t T p = eX t T 59 (p + 1, false) := by unfold cc; rw [eo, e]; rfl
      have e9 := x1_end (L := L) (r := r) hc1 ht hT (s := (p + 1, false)) (show p + 1 < 500 from by omega)
      refine ⟨I1, ?_, fun a ha => hf1 a (by omega), hj1, fun _ => ⟨ho1, fun h1 h2 => by omega, fun h => by omega, fun h => by omega⟩⟩
      rw [hcc]
      rw [e] at e1 ho1 hI1
      unfold f_X1_readOne
      simp (maxSteps := 3000000) (disch := omega) only [plit, pR_100_3, pI_100_7, pR_100_2, pbs, ps_a, h7, pO_97, e1, pS_101 hi, ps_up, ← hI1, h71, pA_101 hi, ho1, pn_eq, Nat.reduceEqDiff, reduceIte, e9]
    · have hcc : cc t T p = eX t T 59 (eZ t T (c3 t T p)) := by unfold cc; rw [eo, e]; rfl
      obtain ⟨I2, hI2⟩ : ∃ I2, I2 = up2 (up2 I1 102 i (nI (vN t T 2 (p + 1, false)))) 103 i (nI (cY t T p)) := ⟨_, rfl⟩
      rw [← hI2] at hpr
      have hc2 : cT I2 t T := by rw [hI2]; exact hc13 _ _
      have h72 : I2 100 7 = nI i := by rw [hI2, up2_ne (by decide), up2_ne (by decide)]; exact h71
      have hc3 : ∀ x, cT (up2 I2 104 i x) t T := fun x => cT_up hc2 (by decide) (by decide)
      have bb : (c3 t T p).1 < 400 := by unfold c3 c2 at *; omega
      have bb2 : (eN t T 2 (c2 t T p)).1 < 400 := by unfold c2 at *; omega
      have f1 := sx_expect (L := L) (r := r) hc2 ht hT (c := 44) (s := eN t T 2 (c2 t T p)) (by decide) (by omega)
      rw [show eX t T 44 (eN t T 2 (c2 t T p)) = c3 t T p from rfl] at f1
      have f2 := x7_skip (L := L) (r := r) hc2 ht hT (p := (c3 t T p).1) (c := 45) (f := (c3 t T p).2) (by omega) (by decide)
      rw [show pt I2 (c3 t T p).1 (c3 t T p).2 = ps I2 (c3 t T p) from rfl, show pt I2 (if tk t T (c3 t T p).1 (c3 t T p).2 45 then (c3 t T p).1 + 1 else (c3 t T p).1) (c3 t T p).2 = ps I2 (if tk t T (c3 t T p).1 (c3 t T p).2 45 then (c3 t T p).1 + 1 else (c3 t T p).1, (c3 t T p).2) from rfl] at f2
      have e9 := x1_end (L := L) (r := r) (hc3 (mI (cZ t T p))) ht hT (s := eZ t T (c3 t T p)) (by omega)
      refine ⟨up2 I2 104 i (mI (cZ t T p)), ?_, fun a ha => by rw [up2_a (by omega), hI2, up2_a (by omega), up2_a (by omega), hf1 a (by omega)], fun a j hj => by rw [up2_nj hj, hI2, up2_nj hj, up2_nj hj, hj1 a j hj], fun _ => ⟨by rw [up2_ne (by decide), hI2, up2_ne (by decide), up2_ne (by decide)]; exact ho1, fun _ _ => by rw [up2_ne (by decide), hI2, up2_ne (by decide), up2_eq]; unfold cX; rw [if_neg (by omega)], fun _ => by rw [up2_ne (by decide), hI2, up2_eq], fun _ => up2_eq⟩⟩
      rw [hcc]
      rw [e] at e1 ho1 hI1
      cases ek : tk t T (c3 t T p).1 (c3 t T p).2 45
      · rw [ek] at f2
        have hz : eZ t T (c3 t T p) = eN t T 2 (c3 t T p) := by unfold eZ; rw [ek]; rfl
        have hv : cZ t T p = vN t T 2 (c3 t T p) + 1 := by unfold cZ; rw [ek]; rfl
        rw [hz, hv, mI_s] at e9
        rw [hz, hv, mI_s]
        simp only [Bool.false_eq_true, if_false] at f2
        rw [show ((c3 t T p).1, (c3 t T p).2) = c3 t T p from rfl] at f2
        have f3 := sx_number (L := L) (r := r) hc2 ht hT (m := 2) (s := c3 t T p) (by decide) (by decide) (by omega)
        unfold f_X1_readOne f_X1_readOne_b141
        simp (maxSteps := 3000000) (disch := omega) only [plit, pR_100_3, pI_100_7, pR_100_2, pbs, ps_a, h7, pO_97, e1, pS_101 hi, ps_up, ← hI1, h71, pA_101 hi, ho1, pn_eq, Nat.reduceEqDiff, reduceIte, pO_100, hpr, f1, h72, f2, bIn, f3, pR_100_6, pS_104 hi, e9]
      · rw [ek] at f2
        have hz : eZ t T (c3 t T p) = ((c3 t T p).1 + 1, (c3 t T p).2) := by unfold eZ; rw [ek]; rfl
        have hv : cZ t T p = 0 := by unfold cZ; rw [ek]; rfl
        rw [hz, hv, mI_0] at e9
        rw [hz, hv, mI_0]
        simp only [if_true] at f2
        unfold f_X1_readOne f_X1_readOne_b141
        simp (maxSteps := 3000000) (disch := omega) only [plit, pR_100_3, pI_100_7, pR_100_2, pbs, ps_a, h7, pO_97, e1, pS_101 hi, ps_up, ← hI1, h71, pA_101 hi, ho1, pn_eq, Nat.reduceEqDiff, reduceIte, pO_100, hpr, f1, h72, f2, bIn, Bool.true_eq_false, pR_100_6, pS_104 hi, e9]
    · have hcc : cc t T p = eX t T 59 (eN t T 2 (c2 t T p)) := by unfold cc; rw [eo, e]; rfl
      have e9 := x1_end (L := L) (r := r) (hc13 (nI (vN t T 2 (p + 1, false))) (nI (cY t T p))) ht hT (s := eN t T 2 (c2 t T p)) (by unfold c2 at b3 ⊢; omega)
      refine ⟨up2 (up2 I1 102 i (nI (vN t T 2 (p + 1, false)))) 103 i (nI (cY t T p)), ?_, fun a ha => by rw [up2_a (by omega), up2_a (by omega), hf1 a (by omega)], fun a j hj => by rw [up2_nj hj, up2_nj hj, hj1 a j hj], fun _ => ⟨by rw [up2_ne (by decide), up2_ne (by decide)]; exact ho1, fun _ _ => by rw [up2_ne (by decide), up2_eq]; unfold cX; rw [if_neg (by omega)], fun _ => up2_eq, fun h => by omega⟩⟩
      rw [hcc]
      rw [e] at e1 ho1 hI1
      unfold f_X1_readOne
      simp (maxSteps := 3000000) (disch := omega) only [plit, pR_100_3, pI_100_7, pR_100_2, pbs, ps_a, h7, pO_97, e1, pS_101 hi, ps_up, ← hI1, h71, pA_101 hi, ho1, pn_eq, Nat.reduceEqDiff, reduceIte, pO_100, hpr, e9]
    · have hcc : cc t T p = eX t T 59 (eN t T 2 (c2 t T p)) := by unfold cc; rw [eo, e]; rfl
      have e9 := x1_end (L := L) (r := r) (hc13 (nI (vN t T 2 (p + 1, false))) (nI (cY t T p))) ht hT (s := eN t T 2 (c2 t T p)) (by unfold c2 at b3 ⊢; omega)
      refine ⟨up2 (up2 I1 102 i (nI (vN t T 2 (p + 1, false)))) 103 i (nI (cY t T p)), ?_, fun a ha => by rw [up2_a (by omega), up2_a (by omega), hf1 a (by omega)], fun a j hj => by rw [up2_nj hj, up2_nj hj, hj1 a j hj], fun _ => ⟨by rw [up2_ne (by decide), up2_ne (by decide)]; exact ho1, fun _ _ => by rw [up2_ne (by decide), up2_eq]; unfold cX; rw [if_neg (by omega)], fun _ => up2_eq, fun h => by omega⟩⟩
      rw [hcc]
      rw [e] at e1 ho1 hI1
      unfold f_X1_readOne
      simp (maxSteps := 3000000) (disch := omega) only [plit, pR_100_3, pI_100_7, pR_100_2, pbs, ps_a, h7, pO_97, e1, pS_101 hi, ps_up, ← hI1, h71, pA_101 hi, ho1, pn_eq, Nat.reduceEqDiff, reduceIte, pO_100, hpr, e9]
end CMD
