/-! the quotient's bits: the class -/
set_option maxRecDepth 8192 in
theorem q_div {r q i : Nat} (hq : 0 < q) : r * 2 ^ (i + 1) / q = (if 2 * (r * 2 ^ i % q) < q then 2 * (r * 2 ^ i / q) else 2 * (r * 2 ^ i / q) + 1) ∧ r * 2 ^ (i + 1) % q = (if 2 * (r * 2 ^ i % q) < q then 2 * (r * 2 ^ i % q) else 2 * (r * 2 ^ i % q) - q) := by
  have h1 := Nat.div_add_mod (r * 2 ^ i) q
  have h2 := Nat.mod_lt (r * 2 ^ i) hq
  obtain ⟨M, hM⟩ : ∃ M, M = r * 2 ^ i / q := ⟨_, rfl⟩
  obtain ⟨R, hR⟩ : ∃ R, R = r * 2 ^ i % q := ⟨_, rfl⟩
  rw [← hM, ← hR] at h1
  rw [← hR] at h2
  rw [← hM, ← hR]
  have e1 : r * 2 ^ (i + 1) = q * (2 * M) + 2 * R := by
    rw [Nat.pow_succ, ← Nat.mul_assoc, ← h1, Nat.add_mul, Nat.mul_assoc, Nat.mul_comm M 2, Nat.mul_comm R 2]
  by_cases e : 2 * R < q
  · rw [if_pos e, if_pos e, e1]
    exact ⟨by rw [Nat.mul_add_div hq, Nat.div_eq_of_lt e, Nat.add_zero], by rw [Nat.mul_add_mod, Nat.mod_eq_of_lt e]⟩
  · rw [if_neg e, if_neg e]
    have e2 : r * 2 ^ (i + 1) = q * (2 * M + 1) + (2 * R - q) := by
      rw [e1, Nat.mul_add, Nat.mul_one]
      omega
    have e3 : 2 * R - q < q := by omega
    rw [e2]
    exact ⟨by rw [Nat.mul_add_div hq, Nat.div_eq_of_lt e3, Nat.add_zero], by rw [Nat.mul_add_mod, Nat.mod_eq_of_lt e3]⟩
set_option maxRecDepth 8192 in
theorem lg_N {a b : Nat} (ha : a < 2 ^ 31) (hb : b < 2 ^ 31) : lg_cmp (lN a) (lN b) = if b < a then nI 1 else if a = b then nI 0 else -nI 1 := by
  unfold lg_cmp
  by_cases e : b < a
  · rw [if_pos (show lN a > lN b from (lN_lt hb ha).mpr e), if_pos e]
    rfl
  · rw [if_neg (show ¬ lN a > lN b from fun h => e ((lN_lt hb ha).mp h)), if_neg e]
    by_cases e2 : a = b
    · subst e2
      rw [if_pos rfl, if_pos rfl]
      rfl
    · rw [if_neg e2, if_neg (by rw [lN_eq ha hb]; exact e2)]
      rfl
set_option maxRecDepth 8192 in
theorem lN_odd (M : Nat) : (lg_cmp (lN M &&& 1) 1 = nI 0) = (M % 2 = 1) := by
  have h : lN M &&& 1 = lN (M % 2) := by
    apply Int64.toBitVec_inj.mp
    rw [Int64.toBitVec_and]
    show BitVec.ofNat 64 M &&& 1#64 = BitVec.ofNat 64 (M % 2)
    apply BitVec.eq_of_toNat_eq
    rw [BitVec.toNat_and, BitVec.toNat_ofNat, BitVec.toNat_ofNat, BitVec.toNat_ofNat, show 1 % 2 ^ 64 = 1 from rfl, Nat.and_one_is_mod]
    omega
  rw [h]
  rcases Nat.mod_two_eq_zero_or_one M with e | e
  · rw [e]
    decide
  · rw [e]
    decide
def q_up (M R Q : Nat) : Nat := if Q < 2 * R ∨ 2 * R = Q ∧ M % 2 = 1 then 1 else 0
set_option maxRecDepth 8192 in
theorem q_fin {m e M up : Nat} {σ : hb_M} (hm : m = 52 ∨ m = 23) (he : e < 2048) (hu : up = 0 ∨ up = 1) : f_X8_quotientBits_b199 (nI m) (nI e) (lN M) (nI up) σ = some (lN (e * 2 ^ m + M + up), σ) := by
  have k1 : ∀ e, e < 2048 → (nI e).toInt64 <<< ((nI 52).toInt64 &&& 63) = lN (e * 2 ^ 52) := by decide +kernel
  have k2 : ∀ e, e < 2048 → (nI e).toInt64 <<< ((nI 23).toInt64 &&& 63) = lN (e * 2 ^ 23) := by decide +kernel
  have h1 : (nI e).toInt64 <<< ((nI m).toInt64 &&& 63) = lN (e * 2 ^ m) := by
    rcases hm with h | h
    · subst h; exact k1 e he
    · subst h; exact k2 e he
  unfold f_X8_quotientBits_b199
  rw [h1]
  rcases hu with h | h
  · subst h
    rw [if_pos (show nI 0 = 0 from rfl), lN_add, show (0 : Int32).toInt64 = lN 0 from rfl, lN_add]
  · subst h
    rw [if_neg (show ¬ nI 1 = 0 from by decide), lN_add, show (1 : Int32).toInt64 = lN 1 from rfl, lN_add]
set_option maxRecDepth 8192 in
theorem lc_le {a b : Nat} (ha : a < 2 ^ 31) (hb : b < 2 ^ 31) : (nI 0 ≤ lg_cmp (lN a) (lN b)) = (b ≤ a) := by
  rw [lg_N ha hb]
  by_cases e : b < a
  · rw [if_pos e]
    exact propext ⟨fun _ => by omega, fun _ => by decide⟩
  · rw [if_neg e]
    by_cases e2 : a = b
    · rw [if_pos e2]
      exact propext ⟨fun _ => by omega, fun _ => by decide⟩
    · rw [if_neg e2]
      exact propext ⟨fun h => absurd h (by decide), fun h => by omega⟩
set_option maxRecDepth 8192 in
theorem lc_gt {a b : Nat} (ha : a < 2 ^ 31) (hb : b < 2 ^ 31) : (nI 0 < lg_cmp (lN a) (lN b)) = (b < a) := by
  rw [lg_N ha hb]
  by_cases e : b < a
  · rw [if_pos e]
    exact propext ⟨fun _ => e, fun _ => by decide⟩
  · rw [if_neg e]
    by_cases e2 : a = b
    · rw [if_pos e2]
      exact propext ⟨fun h => absurd h (by decide), fun h => by omega⟩
    · rw [if_neg e2]
      exact propext ⟨fun h => absurd h (by decide), fun h => by omega⟩
set_option maxRecDepth 8192 in
theorem lc_eq {a b : Nat} (ha : a < 2 ^ 31) (hb : b < 2 ^ 31) : (lg_cmp (lN a) (lN b) = nI 0) = (a = b) := by
  rw [lg_N ha hb]
  by_cases e : b < a
  · rw [if_pos e]
    exact propext ⟨fun h => absurd h (by decide), fun h => by omega⟩
  · rw [if_neg e]
    by_cases e2 : a = b
    · rw [if_pos e2]
      exact propext ⟨fun _ => e2, fun _ => rfl⟩
    · rw [if_neg e2]
      exact propext ⟨fun h => absurd h (by decide), fun h => absurd h e2⟩
set_option maxRecDepth 8192 in
theorem lc_lt {a b : Nat} (ha : a < 2 ^ 31) (hb : b < 2 ^ 31) : (lg_cmp (lN a) (lN b) < nI 0) = (a < b) := by
  rw [lg_ltE, lN_ltE ha hb]
set_option maxRecDepth 8192 in
theorem lN_dif {a b : Nat} (h : b ≤ a) : lN a - lN b = lN (a - b) := by
  have : lN (a - b) + lN b = lN a := by rw [lN_add]; congr 1; omega
  rw [← this, Int64.add_sub_cancel]
/-! the digits after the point -/
set_option maxRecDepth 8192 in
theorem q_bits {m e r0 Q : Nat} {σ : hb_M} (hm : m = 52 ∨ m = 23) (he : e < 2048) (hQ : 0 < Q) (hQ2 : Q < 2 ^ 25) (hr : r0 < Q) : ∀ d i F, i + d = m → d < F → f_X8_quotientBits_b111 F (nI m) (lN (r0 * 2 ^ i % Q)) (lN Q) (nI e) (lN (r0 * 2 ^ i / Q)) (nI i) σ = some (lN (e * 2 ^ m + r0 * 2 ^ m / Q + q_up (r0 * 2 ^ m / Q) (r0 * 2 ^ m % Q) Q), σ) := by
  intro d
  induction d with
  | zero =>
    intro i F h1 h2
    obtain ⟨F, rfl⟩ : ∃ G, F = G + 1 := ⟨F - 1, by omega⟩
    have hi : i = m := by omega
    subst hi
    have hR := Nat.mod_lt (r0 * 2 ^ i) hQ
    obtain ⟨R, hRd⟩ : ∃ R, R = r0 * 2 ^ i % Q := ⟨_, rfl⟩
    obtain ⟨M, hMd⟩ : ∃ M, M = r0 * 2 ^ i / Q := ⟨_, rfl⟩
    rw [← hRd] at hR
    rw [← hRd, ← hMd]
    have hl : (nI i ≤ nI i) = True := eq_true (by rw [pn_le (by omega) (by omega)]; omega)
    have hodd := lN_odd M
    simp only [plit, fa_litL] at hodd
    simp (disch := omega) only [f_X8_quotientBits_b111, f_X8_quotientBits_b194, f_X8_quotientBits_b198, plit, hl, if_true, fa_litL, lN_mul, lc_gt, lc_eq, hodd]
    unfold q_up
    by_cases e1 : Q < 2 * R
    · rw [if_pos e1, if_pos (Or.inl e1), q_fin hm he (Or.inr rfl)]
    · rw [if_neg e1]
      by_cases e2 : 2 * R = Q
      · rw [if_pos e2]
        by_cases e3 : M % 2 = 1
        · rw [if_pos e3, if_pos (Or.inr ⟨e2, e3⟩), q_fin hm he (Or.inr rfl)]
        · rw [if_neg e3, if_neg (by omega), q_fin hm he (Or.inl rfl)]
      · rw [if_neg e2, if_neg (by omega), q_fin hm he (Or.inl rfl)]
  | succ d ih =>
    intro i F h1 h2
    obtain ⟨F, rfl⟩ : ∃ G, F = G + 1 := ⟨F - 1, by omega⟩
    have hR := Nat.mod_lt (r0 * 2 ^ i) hQ
    obtain ⟨s1, s2⟩ := q_div (r := r0) (i := i) hQ
    have hih := ih (i + 1) F (by omega) (by omega)
    rw [s1, s2] at hih
    obtain ⟨R, hRd⟩ : ∃ R, R = r0 * 2 ^ i % Q := ⟨_, rfl⟩
    obtain ⟨M, hMd⟩ : ∃ M, M = r0 * 2 ^ i / Q := ⟨_, rfl⟩
    rw [← hRd] at hR
    rw [← hRd, ← hMd] at hih
    rw [← hRd, ← hMd]
    have hn : (m ≤ i) = False := eq_false (by omega)
    simp (disch := omega) only [f_X8_quotientBits_b111, f_X8_quotientBits_b155, plit, pn_le, hn, if_false, fa_litL, lN_mul, lN_add, lc_lt, nI_add]
    by_cases e1 : 2 * R < Q
    · rw [if_pos (by omega)]
      rw [if_pos e1, if_pos e1, Nat.mul_comm 2 M, Nat.mul_comm 2 R] at hih
      exact hih
    · rw [if_neg (by omega)]
      rw [if_neg e1, if_neg e1, Nat.mul_comm 2 M, Nat.mul_comm 2 R] at hih
      rw [lN_dif (by omega)]
      exact hih
