/-! commands: how the reference reads them -/
def rT (I : Nat → Nat → Int32) (t : Nat) (T : Nat → Nat) : Prop := I 130 6 = nI t ∧ ∀ j, j < t → I 134 j = nI (T j)
def rF (I J : Nat → Nat → Int32) : Prop := (∀ a, a ≠ 130 → a ≠ 147 → J a = I a) ∧ ∀ j, j ≠ 22 → j ≠ 26 → j ≠ 27 → J 130 j = I 130 j
def rG (o : Option (Int32 × hb_M)) (I : Nat → Nat → Int32) (L : Nat → Nat → Int64) (r : Nat → Option Nat) (t : Nat) (T : Nat → Nat) (c p : Nat) (s : Nat × Bool) : Prop := ∃ J v, o = some (v, pm J L r) ∧ rF I J ∧ (∀ j, (j < 4 * c ∨ 4 * c + 3 < j) → J 147 j = I 147 j) ∧ (s.2 = true → v = nI s.1) ∧ (s.2 = false → v = -nI 1 ∧ J 130 22 = nI s.1 ∧ J 130 26 = nI (c + 1) ∧ cmS t T p (J 147 (4 * c)) (J 147 (4 * c + 1)) (J 147 (4 * c + 2)) (J 147 (4 * c + 3)))
set_option maxRecDepth 8192 in
theorem rF_tr {I J K : Nat → Nat → Int32} (a : rF I J) (b : rF J K) : rF I K := ⟨fun c h1 h2 => (b.1 c h1 h2).trans (a.1 c h1 h2), fun j h1 h2 h3 => (b.2 j h1 h2 h3).trans (a.2 j h1 h2 h3)⟩
set_option maxRecDepth 8192 in
theorem rF_me (I : Nat → Nat → Int32) : rF I I := ⟨fun _ _ _ => rfl, fun _ _ _ _ => rfl⟩
set_option maxRecDepth 8192 in
theorem rF_147 {I : Nat → Nat → Int32} {j : Nat} {x : Int32} : rF I (up2 I 147 j x) := ⟨fun a _ h => up2_a h, fun _ _ _ _ => up2_ne (by decide)⟩
set_option maxRecDepth 8192 in
theorem rF_130 {I : Nat → Nat → Int32} {j : Nat} {x : Int32} (h : j = 22 ∨ j = 26 ∨ j = 27) : rF I (up2 I 130 j x) := ⟨fun a h _ => up2_a h, fun i _ _ _ => up2_nj (by omega)⟩
set_option maxRecDepth 8192 in
theorem rT_fr {I J : Nat → Nat → Int32} {t : Nat} {T : Nat → Nat} (h : rT I t T) (e : rF I J) : rT J t T := ⟨by rw [e.2 6 (by decide) (by decide) (by decide)]; exact h.1, fun j hj => by rw [e.1 134 (by decide) (by decide)]; exact h.2 j hj⟩
section CMD3
variable {I J : Nat → Nat → Int32} {L K : Nat → Nat → Int64} {r : Nat → Option Nat} {A : Nat → Nat → Nat} {n : Nat} {H : Nat → Nat → Nat → Nat} {t : Nat} {T : Nat → Nat} {P : Nat → Nat → Nat → Nat} {k : Nat → Bool} {B : Nat}
set_option maxRecDepth 8192 in
theorem r9_letter (h : rT I t T) (ht : t ≤ 100) {p : Nat} (hp : p < 1000) : f_X9_letter 130 (nI p) (pm I L r) = some (mI (tl t T p), pm I L r) := by
  unfold f_X9_letter tl
  simp (disch := omega) only [pI_130_6, pbs, h.1, pn_le, plit]
  by_cases e : p < t
  · rw [if_neg (by omega), if_pos e]
    simp (disch := omega) only [pR_130_5, pbs, pA_134, h.2 p e, mI_s]
  · rw [if_pos (by omega), if_neg e, mI_0]
set_option maxRecDepth 8192 in
theorem r9_isDigit {c : Nat} (hc : c ≤ 128) {σ : hb_M} : f_X9_isDigit (mI c) σ = some (bI (decide (49 ≤ c ∧ c ≤ 58)), σ) := by
  unfold f_X9_isDigit
  rw [r9_within, pbs]
  have key : ∀ c, c < 129 → decide (¬ mI c < 48 ∧ ¬ 57 < mI c) = decide (49 ≤ c ∧ c ≤ 58) := by decide +kernel
  simp only []
  rw [key c (by omega)]
  cases decide (49 ≤ c ∧ c ≤ 58) <;> rfl
set_option maxRecDepth 8192 in
theorem r9_digit (h : rT I t T) (ht : t ≤ 100) (hT : ∀ j, j < t → T j < 128) {p : Nat} {σ : hb_M} : f_X9_isDigit (mI (tl t T p)) σ = some (bI (td t T p), σ) := r9_isDigit (tl_lt hT p)
set_option maxRecDepth 8192 in
theorem td_ex {p : Nat} (h : td t T p = true) : p < t ∧ tl t T p = T p + 1 ∧ 48 ≤ T p ∧ T p ≤ 57 := by
  have e2 := of_decide_eq_true h
  have hq : p < t := by
    unfold tl at e2
    split at e2
    · assumption
    · omega
  have htl : tl t T p = T p + 1 := by unfold tl; rw [if_pos hq]
  exact ⟨hq, htl, by omega, by omega⟩
set_option maxRecDepth 8192 in
theorem r9_number (h : rT I t T) (ht : t ≤ 100) (hT : ∀ j, j < t → T j < 128) {p : Nat} (hp : p < 900) : ∃ J, f_X9_isNumber 130 (nI p) (pm I L r) = some (bI (decide (tc t T 2 p ≠ 0)), pm J L r) ∧ rF I J ∧ J 147 = I 147 ∧ J 130 26 = I 130 26 ∧ (tc t T 2 p ≠ 0 → J 130 27 = nI (tv t T 2 p 0) ∧ J 130 22 = nI (p + tc t T 2 p)) := by
  unfold f_X9_isNumber
  simp (disch := omega) only [plit, pO_130, r9_letter h ht (show p < 1000 from by omega), pbs, r9_digit h ht hT, bIn]
  have hrf : ∀ (x y : Int32), rF I (up2 (up2 I 130 27 x) 130 22 y) := fun x y => rF_tr (rF_130 (by omega)) (rF_130 (by omega))
  cases e1 : td t T p
  · have e0 : tc t T 2 p = 0 := by simp [tc, e1]
    rw [e0]
    exact ⟨I, rfl, rF_me I, rfl, rfl, fun h => absurd rfl h⟩
  · obtain ⟨d1, d2, d3, d4⟩ := td_ex e1
    have hv1 : nI (T p) - nI 48 = nI (T p - 48) := nI_dif0 d3
    have h2 := rT_fr h (hrf (nI (T p - 48)) (nI (p + 1)))
    simp only [Bool.true_eq_false, if_false, d2, mI_s, hv1, pP_130_27, pbs, nI_add, pP_130_22]
    simp (disch := omega) only [pO_130, r9_letter h2 ht (show p + 1 < 1000 from by omega), pbs, r9_digit h2 ht hT, bIn]
    cases e3 : td t T (p + 1)
    · have e0 : tc t T 2 p = 1 := by simp [tc, e1, e3]
      have ev : tv t T 2 p 0 = T p - 48 := by simp [tv, e1, e3]
      rw [e0, ev]
      exact ⟨_, rfl, hrf _ _, by rw [up2_a (by decide), up2_a (by decide)], by rw [up2_nj (by decide), up2_nj (by decide)], fun _ => ⟨by rw [up2_nj (by decide), up2_eq], up2_eq⟩⟩
    · obtain ⟨f1, f2, f3, f4⟩ := td_ex e3
      have e0 : tc t T 2 p = 2 := by simp [tc, e1, e3]
      have ev : tv t T 2 p 0 = (T p - 48) * 10 + (T (p + 1) - 48) := by simp [tv, e1, e3]
      have hv2 : nI (10 * (T p - 48) + T (p + 1)) - nI 48 = nI ((T p - 48) * 10 + (T (p + 1) - 48)) := by
        rw [nI_dif0 (by omega)]
        congr 1
        omega
      rw [e0, ev]
      simp (disch := omega) only [Bool.true_eq_false, if_false, pI_130_27, pbs, up2_nj, up2_eq, r9_letter h2 ht (show p + 1 < 1000 from by omega), pO_130, f2, mI_s, pk_mul, nI_add, hv2, pP_130_27, pP_130_22]
      exact ⟨_, rfl, rF_tr (hrf _ _) (rF_tr (rF_130 (by omega)) (rF_130 (by omega))), by rw [up2_a (by decide), up2_a (by decide), up2_a (by decide), up2_a (by decide)], by rw [up2_nj (by decide), up2_nj (by decide), up2_nj (by decide), up2_nj (by decide)], fun _ => ⟨by rw [up2_nj (by decide), up2_eq], up2_eq⟩⟩
/-! the end of a command -/
set_option maxRecDepth 8192 in
theorem r9_end {I0 : Nat → Nat → Int32} (h : rT I0 t T) (ht : t ≤ 100) (hT : ∀ j, j < t → T j < 128) {c p q : Nat} (hc : c < 99) (hq : q < 900) (hf : rF I0 I) (ho : ∀ j, (j < 4 * c ∨ 4 * c + 3 < j) → I 147 j = I0 147 j) (h26 : I 130 26 = nI c) (hm : cmS t T p (I 147 (4 * c)) (I 147 (4 * c + 1)) (I 147 (4 * c + 2)) (I 147 (4 * c + 3))) : rG (f_X9_command_b230 130 (nI q) (pm I L r)) I0 L r t T c p (eX t T 59 (q, false)) := by
  have hI := rT_fr h hf
  have hl := tl_lt (t := t) hT q
  have hk : tk t T q false 59 = decide (tl t T q = 60) := rfl
  unfold f_X9_command_b230
  simp (disch := omega) only [plit, pO_130, r9_letter hI ht (show q < 1000 from by omega), pbs, mI_nI]
  unfold eX
  simp only [hk]
  by_cases e : tl t T q = 60
  · simp only [e, reduceIte, pI_130_26, pbs, h26, nI_add, pP_130_26, pP_130_22, decide_true]
    refine ⟨_, _, rfl, rF_tr hf (rF_tr (rF_130 (by omega)) (rF_130 (by omega))), fun j hj => ?_, (fun h => by cases h), fun _ => ⟨rfl, up2_eq, by rw [up2_nj (by decide), up2_eq], ?_⟩⟩
    · rw [up2_ne (by decide), up2_ne (by decide)]
      exact ho j hj
    · rw [up2_a (by decide), up2_a (by decide)]
      exact hm
  · simp only [e, reduceIte, decide_false, Bool.false_eq_true, Bool.not_false, Bool.or_true]
    exact ⟨I, _, rfl, hf, ho, fun _ => rfl, fun h => by cases h⟩
/-! an argument -/
set_option maxRecDepth 8192 in
theorem r9_arg (h : rT I t T) (ht : t ≤ 100) (hT : ∀ j, j < t → T j < 128) {F j x5 q c : Nat} (hj : 1 ≤ j ∧ j ≤ 3) (h5 : x5 ≤ 3) (hj5 : j ≤ x5) (hq : q < 900) (hc : c < 99) (hz : j = 3 → tl t T q ≠ 46) : (tc t T 2 q = 0 → ∃ J, f_X9_command_b109 (F + 1) 130 (nI (4 * c)) (nI q) (nI x5) (nI j) (pm I L r) = some (nI q, pm J L r) ∧ rF I J ∧ J 147 = I 147) ∧ (tc t T 2 q ≠ 0 → ∃ J, f_X9_command_b109 (F + 1) 130 (nI (4 * c)) (nI q) (nI x5) (nI j) (pm I L r) = f_X9_command_b183 (f_X9_command_b109 F) 130 (nI (4 * c)) (nI (q + tc t T 2 q)) (nI x5) (nI j) (pm J L r) ∧ rF I J ∧ J 130 26 = I 130 26 ∧ J 147 (4 * c + j) = nI (tv t T 2 q 0) ∧ ∀ i, i ≠ 4 * c + j → J 147 i = I 147 i) := by
  have hl := tl_lt (t := t) hT q
  obtain ⟨J, n1, n2, n3, n4, n5⟩ := r9_number (L := L) (r := r) h ht hT hq
  have hun : f_X9_command_b109 (F + 1) 130 (nI (4 * c)) (nI q) (nI x5) (nI j) (pm I L r) = f_X9_command_b149 (f_X9_command_b109 F) 130 (nI (4 * c)) (nI q) (nI x5) (nI j) (pm I L r) := by
    simp (disch := omega) only [f_X9_command_b109, plit, pn_lt, pn_eq]
    rw [if_neg (by omega)]
    by_cases e : j = 3
    · rw [if_pos e]
      simp (disch := omega) only [pO_130, r9_letter h ht (show q < 1000 from by omega), pbs, mI_nI]
      rw [if_neg (hz e)]
    · rw [if_neg e]
  rw [hun]
  unfold f_X9_command_b149
  simp only [plit, pO_130, n1, pbs, bIn]
  constructor
  · intro e
    rw [e]
    exact ⟨J, rfl, n2, n3⟩
  · intro e
    rw [decide_eq_true e]
    simp (disch := omega) only [Bool.true_eq_false, if_false, pR_130_25, pbs, pI_130_27, (n5 e).1, nI_add, pS_147, pI_130_22, up2_ne, (n5 e).2]
    refine ⟨_, rfl, rF_tr n2 rF_147, by rw [up2_ne (by decide)]; exact n4, up2_eq, fun i hi => ?_⟩
    rw [up2_nj hi, n3]
set_option maxRecDepth 8192 in
theorem r9_comma (h : rT I t T) (ht : t ≤ 100) (hT : ∀ j, j < t → T j < 128) {j x5 q : Nat} {b : Int32} {k9 : Nat → Int32 → Int32 → Int32 → Int32 → hb_M → Option (Int32 × hb_M)} (h5 : x5 ≤ 3) (hj5 : j < x5) (hq : q < 900) : f_X9_command_b183 k9 130 b (nI q) (nI x5) (nI j) (pm I L r) = if tl t T q = 45 then k9 130 b (nI (q + 1)) (nI x5) (nI (j + 1)) (pm I L r) else some (nI q, pm I L r) := by
  have hl := tl_lt (t := t) hT q
  unfold f_X9_command_b183 f_X9_command_b207
  simp (disch := omega) only [plit, pn_le, pO_130, r9_letter h ht (show q < 1000 from by omega), pbs, mI_nI, nI_add]
  rw [if_neg (by omega)]
set_option maxRecDepth 8192 in
theorem r9_last {j x5 : Nat} {b q : Int32} {σ : hb_M} {F : Nat} (h5 : x5 ≤ 3) (hj5 : j = x5) : f_X9_command_b183 (f_X9_command_b109 (F + 1)) 130 b q (nI x5) (nI j) σ = f_X9_command_b230 130 q σ := by
  subst hj5
  unfold f_X9_command_b183 f_X9_command_b207
  simp (disch := omega) only [plit, pn_le, Nat.le_refl, if_true, nI_add, f_X9_command_b109, pn_lt]
  rw [if_pos (by omega)]
end CMD3
