/-! the quotient's bits: what rounding says -/
section FPQ
set_option maxRecDepth 8192 in
theorem fp_near {P Q m : Nat} (hQ : 0 < Q) (h1 : Q ≤ P) (hm : 1 ≤ m) : FP.Core.nearest (P * 2 ^ m) Q = 2 ^ m + (P - Q) * 2 ^ m / Q + q_up ((P - Q) * 2 ^ m / Q) ((P - Q) * 2 ^ m % Q) Q := by
  obtain ⟨X, hX⟩ : ∃ X, X = (P - Q) * 2 ^ m := ⟨_, rfl⟩
  have e1 : P * 2 ^ m = Q * 2 ^ m + X := by rw [hX, ← Nat.add_mul]; congr 1; omega
  have e2 : (Q * 2 ^ m + X) / Q = 2 ^ m + X / Q := Nat.mul_add_div hQ _ _
  have e3 : (Q * 2 ^ m + X) % Q = X % Q := Nat.mul_add_mod _ _ _
  have e4 : 2 ^ m % 2 = 0 := by
    obtain ⟨k, rfl⟩ : ∃ k, m = k + 1 := ⟨m - 1, by omega⟩
    rw [Nat.pow_succ]
    omega
  rw [← hX]
  unfold FP.Core.nearest q_up
  rw [e1, e2, e3]
  by_cases c1 : 2 * (X % Q) < Q
  · rw [if_pos c1, if_neg (by omega)]
    omega
  · rw [if_neg c1]
    by_cases c2 : Q < 2 * (X % Q)
    · rw [if_pos c2, if_pos (Or.inl c2)]
    · rw [if_neg c2]
      by_cases c3 : X / Q % 2 = 1
      · rw [if_pos (Or.inr ⟨by omega, c3⟩)]
        omega
      · rw [if_neg (by omega)]
        omega
end FPQ
