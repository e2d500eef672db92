/-! the quotient's bits: the class, the whole -/
set_option maxRecDepth 8192 in
theorem q_pw (x n : Nat) : x * 2 ^ (n + 1) = 2 * (x * 2 ^ n) := by
  rw [Nat.pow_succ, ← Nat.mul_assoc, Nat.mul_comm]
set_option maxRecDepth 8192 in
theorem q_dbl {p Q m e b : Nat} {σ : hb_M} (hQ : Q < 2 ^ 25) (hb : b ≤ 20) (he : 20 ≤ e) (h1 : ∀ j, j < b → p * 2 ^ j < Q) (h2 : Q ≤ p * 2 ^ b) (h3 : p * 2 ^ b < 2 ^ 26) : ∀ d i F, i + d = b → d < F → f_X8_quotientBits_b66 F (nI m) (lN (p * 2 ^ i)) (lN Q) (nI (e - i)) (nI i) σ = f_X8_quotientBits_b98 (nI m) (lN (p * 2 ^ b)) (lN Q) (nI (e - b)) σ := by
  intro d
  induction d with
  | zero =>
    intro i F hi hF
    obtain ⟨F, rfl⟩ : ∃ G, F = G + 1 := ⟨F - 1, by omega⟩
    have : i = b := by omega
    subst this
    have n1 : (32 ≤ i) = False := eq_false (by omega)
    simp (disch := omega) only [f_X8_quotientBits_b66, plit, pn_le, n1, if_false, lc_le]
    rw [if_pos h2]
  | succ d ih =>
    intro i F hi hF
    obtain ⟨F, rfl⟩ : ∃ G, F = G + 1 := ⟨F - 1, by omega⟩
    have hlt := h1 i (by omega)
    have n1 : (32 ≤ i) = False := eq_false (by omega)
    have hdn : nI (e - i) + -nI 1 = nI (e - (i + 1)) := by
      rw [show e - i = e - (i + 1) + 1 from by omega, nI_dn]
    simp (disch := omega) only [f_X8_quotientBits_b66, plit, pn_le, n1, if_false, lc_le, fa_litL, lN_mul, hdn, nI_add]
    rw [if_neg (by omega), Nat.mul_assoc, ← Nat.pow_succ]
    exact ih (i + 1) F (by omega) (by omega)
set_option maxRecDepth 8192 in
theorem q_hlv {p q m e a : Nat} {σ : hb_M} (hp : p < 2 ^ 25) (ha : a ≤ 20) (h1 : ∀ j, j < a → 2 * (q * 2 ^ j) ≤ p) (h2 : p < 2 * (q * 2 ^ a)) (h3 : q * 2 ^ a < 2 ^ 26) : ∀ d i F, i + d = a → d < F → f_X8_quotientBits_b27 F (nI m) (lN p) (lN (q * 2 ^ i)) (nI (e + i)) (nI i) σ = f_X8_quotientBits_b63 (nI m) (lN p) (lN (q * 2 ^ a)) (nI (e + a)) σ := by
  intro d
  induction d with
  | zero =>
    intro i F hi hF
    obtain ⟨F, rfl⟩ : ∃ G, F = G + 1 := ⟨F - 1, by omega⟩
    have : i = a := by omega
    subst this
    have n1 : (32 ≤ i) = False := eq_false (by omega)
    simp (disch := omega) only [f_X8_quotientBits_b27, plit, pn_le, n1, if_false, fa_litL, lN_mul, lc_lt]
    rw [if_pos h2]
  | succ d ih =>
    intro i F hi hF
    obtain ⟨F, rfl⟩ : ∃ G, F = G + 1 := ⟨F - 1, by omega⟩
    have hle := h1 i (by omega)
    have n1 : (32 ≤ i) = False := eq_false (by omega)
    simp (disch := omega) only [f_X8_quotientBits_b27, plit, pn_le, n1, if_false, fa_litL, lN_mul, lc_lt, nI_add]
    rw [if_neg (by omega), Nat.mul_assoc, ← Nat.pow_succ]
    exact ih (i + 1) F (by omega) (by omega)
set_option maxRecDepth 8192 in
theorem x8_quo {p q m e : Nat} {σ : hb_M} (hp0 : 0 < p) (hp : p < 2 ^ 20) (hq0 : 0 < q) (hq : q < 2 ^ 20) (hm : m = 52 ∨ m = 23) (he : 20 ≤ e) (he2 : e + 20 < 2048) : ∃ a b, a ≤ 20 ∧ b ≤ 20 ∧ (a = 0 ∨ b = 0) ∧ q * 2 ^ a ≤ p * 2 ^ b ∧ p * 2 ^ b < 2 * (q * 2 ^ a) ∧ f_X8_quotientBits (lN p) (lN q) (nI m) (nI e) σ = some (lN ((e + a - b) * 2 ^ m + (p * 2 ^ b - q * 2 ^ a) * 2 ^ m / (q * 2 ^ a) + q_up ((p * 2 ^ b - q * 2 ^ a) * 2 ^ m / (q * 2 ^ a)) ((p * 2 ^ b - q * 2 ^ a) * 2 ^ m % (q * 2 ^ a)) (q * 2 ^ a)), σ) := by
  obtain ⟨a, ha, ha1, ha2⟩ : ∃ a, a ≤ 20 ∧ p < 2 * (q * 2 ^ a) ∧ ∀ j, j < a → 2 * (q * 2 ^ j) ≤ p := by
    cases e1 : pf1 (fun a => decide (p < 2 * (q * 2 ^ a))) 21 with
    | zero =>
      have h := pf1_none e1 20 (by omega)
      simp only [decide_eq_false_iff_not] at h
      omega
    | succ a =>
      obtain ⟨h1, h2, h3⟩ := pf1_some e1
      refine ⟨a, by omega, of_decide_eq_true h2, fun j hj => ?_⟩
      have := of_decide_eq_false (h3 j hj)
      omega
  have hqa : q * 2 ^ a < 2 ^ 25 := by
    cases a with
    | zero => omega
    | succ a =>
      have := ha2 a (by omega)
      rw [q_pw]
      omega
  have hq1 : 0 < q * 2 ^ a := Nat.mul_pos hq0 (Nat.pow_pos (by decide))
  obtain ⟨b, hb, hb1, hb2⟩ : ∃ b, b ≤ 20 ∧ q * 2 ^ a ≤ p * 2 ^ b ∧ ∀ j, j < b → p * 2 ^ j < q * 2 ^ a := by
    cases e1 : pf1 (fun b => decide (q * 2 ^ a ≤ p * 2 ^ b)) 21 with
    | zero =>
      have h := pf1_none e1 20 (by omega)
      simp only [decide_eq_false_iff_not] at h
      exfalso
      cases a with
      | zero => omega
      | succ a =>
        have h4 := ha2 a (by omega)
        rw [q_pw] at h
        omega
    | succ b =>
      obtain ⟨h1, h2, h3⟩ := pf1_some e1
      refine ⟨b, by omega, of_decide_eq_true h2, fun j hj => ?_⟩
      have := of_decide_eq_false (h3 j hj)
      omega
  have hz : a = 0 ∨ b = 0 := by
    cases a with
    | zero => exact Or.inl rfl
    | succ a =>
      right
      cases b with
      | zero => rfl
      | succ b =>
        have h4 := ha2 a (by omega)
        have h5 := hb2 0 (by omega)
        rw [q_pw q a] at h5
        omega
  have hlt : p * 2 ^ b < 2 * (q * 2 ^ a) := by
    cases b with
    | zero => omega
    | succ b =>
      have h5 := hb2 b (by omega)
      rw [q_pw]
      omega
  refine ⟨a, b, ha, hb, hz, hb1, hlt, ?_⟩
  have k1 := q_hlv (σ := σ) (m := m) (e := e) (show p < 2 ^ 25 from by omega) ha ha2 ha1 (by omega) a 0 hb_FU (by omega) (by unfold hb_FU; omega)
  have k2 := q_dbl (σ := σ) (m := m) (e := e + a) hqa hb (by omega) hb2 hb1 (by omega) b 0 hb_FU (by omega) (by unfold hb_FU; omega)
  have k3 := q_bits (σ := σ) (m := m) (e := e + a - b) (r0 := p * 2 ^ b - q * 2 ^ a) hm (by omega) hq1 hqa (by omega) m 0 hb_FU (by omega) (by unfold hb_FU; omega)
  rw [Nat.pow_zero, Nat.mul_one, Nat.add_zero] at k1
  rw [Nat.pow_zero, Nat.mul_one, Nat.sub_zero] at k2
  rw [Nat.pow_zero, Nat.mul_one, Nat.mod_eq_of_lt (show p * 2 ^ b - q * 2 ^ a < q * 2 ^ a from by omega), Nat.div_eq_of_lt (show p * 2 ^ b - q * 2 ^ a < q * 2 ^ a from by omega)] at k3
  have l1 : (lg_cmp (lN p) (0 : Int64) ≤ 0) = False := by
    have h9 := lg_N (a := p) (b := 0) (by omega) (by decide)
    rw [if_pos hp0] at h9
    rw [show (0 : Int64) = lN 0 from rfl, h9]
    decide
  have l2 : ((0 : Int32) < lg_cmp (lN q) (0 : Int64)) = True := by
    have h9 := lg_N (a := q) (b := 0) (by omega) (by decide)
    rw [if_pos hq0] at h9
    rw [show (0 : Int64) = lN 0 from rfl, h9]
    decide
  unfold f_X8_quotientBits
  rw [if_neg (by rw [l1]; exact fun h => h), if_pos (by rw [l2]; trivial), show (0 : Int32) = nI 0 from rfl, k1]
  unfold f_X8_quotientBits_b63
  rw [show (0 : Int32) = nI 0 from rfl, k2]
  unfold f_X8_quotientBits_b98
  rw [lN_dif hb1, show (0 : Int32) = nI 0 from rfl, show (0 : Int64) = lN 0 from rfl, k3]
set_option maxRecDepth 8192 in
theorem x8_quo0 {q : Nat} {m e : Int32} {σ : hb_M} : f_X8_quotientBits (lN 0) (lN q) m e σ = some (lN 0, σ) := by
  unfold f_X8_quotientBits
  rw [if_pos (by decide)]
  rfl
