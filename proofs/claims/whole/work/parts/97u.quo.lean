/-! the quotient's bits: the class -/
set_option maxRecDepth 8192 in
theorem q_div {r q i : Nat} (hq : 0 < q) : r * 2 ^ (i + 1) / q = (if 2 * (r * 2 ^ i % q) < q then 2 * (r * 2 ^ i / q) else 2 * (r * 2 ^ i / q) + 1) ∧ r * 2 ^ (i + 1) % q = (if 2 * (r * 2 ^ i % q) < q then 2 * (r * 2 ^ i % q) else 2 * (r * 2 ^ i % q) - q) := by
  have h1 := Nat.div_add_mod (r * 2 ^ i) q
  have h2 := Nat.mod_lt (r * 2 ^ i) hq
  obtain ⟨M, hM⟩ : ∃ M, M = r * 2 ^ i / q := ⟨_, rfl⟩
  obtain ⟨R, hR⟩ : ∃ R, R = r * 2 ^ i % q := ⟨_, rfl⟩
  rw [← hM, ← hR] at h1
  rw [← hR] at h2
  rw [← hM, ← hR]
  have e1 : r * 2 ^ (i + 1) = q * (2 * M) + 2 * R := by
    rw [Nat.pow_succ, ← Nat.mul_assoc, ← h1, Nat.add_mul, Nat.mul_assoc, Nat.mul_comm M 2, Nat.mul_comm R 2]
  by_cases e : 2 * R < q
  · rw [if_pos e, if_pos e, e1]
    exact ⟨by rw [Nat.mul_add_div hq, Nat.div_eq_of_lt e, Nat.add_zero], by rw [Nat.mul_add_mod, Nat.mod_eq_of_lt e]⟩
  · rw [if_neg e, if_neg e]
    have e2 : r * 2 ^ (i + 1) = q * (2 * M + 1) + (2 * R - q) := by
      rw [e1, Nat.mul_add, Nat.mul_one]
      omega
    have e3 : 2 * R - q < q := by omega
    rw [e2]
    exact ⟨by rw [Nat.mul_add_div hq, Nat.div_eq_of_lt e3, Nat.add_zero], by rw [Nat.mul_add_mod, Nat.mod_eq_of_lt e3]⟩
