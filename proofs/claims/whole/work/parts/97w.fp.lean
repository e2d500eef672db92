/-! the quotient's bits: what rounding says -/
section FPQ
set_option maxRecDepth 8192 in
theorem fp_near {P Q m : Nat} (hQ : 0 < Q) (h1 : Q ≤ P) (hm : 1 ≤ m) : FP.Core.nearest (P * 2 ^ m) Q = 2 ^ m + (P - Q) * 2 ^ m / Q + q_up ((P - Q) * 2 ^ m / Q) ((P - Q) * 2 ^ m % Q) Q := by
  obtain ⟨X, hX⟩ : ∃ X, X = (P - Q) * 2 ^ m := ⟨_, rfl⟩
  have e1 : P * 2 ^ m = Q * 2 ^ m + X := by rw [hX, ← Nat.add_mul]; congr 1; omega
  have e2 : (Q * 2 ^ m + X) / Q = 2 ^ m + X / Q := Nat.mul_add_div hQ _ _
  have e3 : (Q * 2 ^ m + X) % Q = X % Q := Nat.mul_add_mod _ _ _
  have e4 : 2 ^ m % 2 = 0 := by
    obtain ⟨k, rfl⟩ : ∃ k, m = k + 1 := ⟨m - 1, by omega⟩
    rw [Nat.pow_succ]
    omega
  rw [← hX]
  unfold FP.Core.nearest q_up
  rw [e1, e2, e3]
  by_cases c1 : 2 * (X % Q) < Q
  · rw [if_pos c1, if_neg (by omega)]
    omega
  · rw [if_neg c1]
    by_cases c2 : Q < 2 * (X % Q)
    · rw [if_pos c2, if_pos (Or.inl c2)]
    · rw [if_neg c2]
      by_cases c3 : X / Q % 2 = 1
      · rw [if_pos (Or.inr ⟨by omega, c3⟩)]
        omega
      · rw [if_neg (by omega)]
        omega
set_option maxRecDepth 8192 in
theorem fp_enc {f : FP.Core.Fmt} {p q a b m : Nat} (hm : f.p = m + 1) (hm20 : 21 ≤ m) (hE : 100 ≤ f.emax) (hp : 0 < p) (hq : 0 < q) (ha : a ≤ 20) (hb : b ≤ 20) (h1 : q * 2 ^ a ≤ p * 2 ^ b) (h2 : p * 2 ^ b < 2 * (q * 2 ^ a)) : FP.Core.encode f (FP.Core.roundRatio f false p q 0) = (f.emax + a - b) * 2 ^ m + (p * 2 ^ b - q * 2 ^ a) * 2 ^ m / (q * 2 ^ a) + q_up ((p * 2 ^ b - q * 2 ^ a) * 2 ^ m / (q * 2 ^ a)) ((p * 2 ^ b - q * 2 ^ a) * 2 ^ m % (q * 2 ^ a)) (q * 2 ^ a) := by
  have hQ : 0 < q * 2 ^ a := Nat.mul_pos hq (Nat.two_pow_pos a)
  have ht : f.tails = 2 ^ m := by unfold FP.Core.Fmt.tails; rw [hm]; rfl
  have hqmin : f.qmin = 1 - (f.emax : Int) - m := by unfold FP.Core.Fmt.qmin; rw [hm]; omega
  have hqmax : f.qmax = (f.emax : Int) - m := by unfold FP.Core.Fmt.qmax; rw [hm]; omega
  have hqu : FP.Core.quantum f p q 0 = (a : Int) - b - m := by
    refine FP.Core.quantum_eq hp hq (by rw [hqmin]; omega) ?_ (Or.inr ?_)
    · rw [show (a : Int) - b - m - 0 + (f.p : Int) = ((a + 1 : Nat) : Int) - (b : Nat) from by rw [hm]; omega, FP.Core.below_iff, q_pw]
      exact h2
    · rw [show (a : Int) - b - m - 0 + ((f.p : Int) - 1) = ((a : Nat) : Int) - (b : Nat) from by rw [hm]; omega, FP.Core.below_iff]
      omega
  have hc : FP.Core.nearest (FP.Core.unitsNum p 0 ((a : Int) - b - m)) (FP.Core.unitsDen q 0 ((a : Int) - b - m)) = 2 ^ m + (p * 2 ^ b - q * 2 ^ a) * 2 ^ m / (q * 2 ^ a) + q_up ((p * 2 ^ b - q * 2 ^ a) * 2 ^ m / (q * 2 ^ a)) ((p * 2 ^ b - q * 2 ^ a) * 2 ^ m % (q * 2 ^ a)) (q * 2 ^ a) := by
    rw [← fp_near hQ h1 (by omega)]
    unfold FP.Core.unitsNum FP.Core.unitsDen
    rw [show (0 - ((a : Int) - b - m)).toNat = m + b - a from by omega, show ((a : Int) - b - m - 0).toNat = 0 from by omega, Nat.pow_zero, Nat.mul_one]
    refine FP.Core.nearest_congr hq hQ ?_
    have e : 2 ^ (m + b - a) * 2 ^ a = 2 ^ b * 2 ^ m := by
      rw [← Nat.pow_add, ← Nat.pow_add]
      congr 1
      omega
    calc p * 2 ^ (m + b - a) * (q * 2 ^ a) = p * q * (2 ^ (m + b - a) * 2 ^ a) := by
          simp only [Nat.mul_assoc, Nat.mul_comm, Nat.mul_left_comm]
      _ = p * q * (2 ^ b * 2 ^ m) := by rw [e]
      _ = p * 2 ^ b * 2 ^ m * q := by simp only [Nat.mul_assoc, Nat.mul_comm, Nat.mul_left_comm]
  have hM : (p * 2 ^ b - q * 2 ^ a) * 2 ^ m / (q * 2 ^ a) < 2 ^ m := by
    rw [Nat.div_lt_iff_lt_mul hQ, Nat.mul_comm (2 ^ m)]
    exact Nat.mul_lt_mul_of_pos_right (by omega) (Nat.two_pow_pos m)
  obtain ⟨M, hMd⟩ : ∃ M, M = (p * 2 ^ b - q * 2 ^ a) * 2 ^ m / (q * 2 ^ a) := ⟨_, rfl⟩
  obtain ⟨u, hud⟩ : ∃ u, u = q_up ((p * 2 ^ b - q * 2 ^ a) * 2 ^ m / (q * 2 ^ a)) ((p * 2 ^ b - q * 2 ^ a) * 2 ^ m % (q * 2 ^ a)) (q * 2 ^ a) := ⟨_, rfl⟩
  have hu1 : u ≤ 1 := by
    rw [hud]
    unfold q_up
    split <;> omega
  rw [← hud, ← hMd] at hc
  rw [← hMd] at hM
  rw [← hud, ← hMd]
  have h2m : 2 ^ f.p = 2 * 2 ^ m := by rw [hm, Nat.pow_succ, Nat.mul_comm]
  obtain ⟨N, hN⟩ : ∃ N, N = 2 ^ m := ⟨_, rfl⟩
  unfold FP.Core.roundRatio FP.Core.roundAt FP.Core.settle FP.Core.bound
  rw [if_neg (by omega), hqu, hc, h2m, ht]
  rw [← hN] at hM ⊢
  have hK : ∀ z : Nat, (z + 1) * N = z * N + N := fun z => by rw [Nat.add_mul, Nat.one_mul]
  by_cases ec : N + M + u < 2 * N
  · rw [if_pos ec, if_pos (by rw [hqmax]; omega)]
    unfold FP.Core.encode FP.Core.assemble
    rw [ht, ← hN]
    simp only []
    rw [if_neg (by omega), show ((a : Int) - b - m - f.qmin).toNat + 1 = f.emax + a - b from by rw [hqmin]; omega]
    simp only [Bool.toNat_false, Nat.zero_mul, Nat.zero_add]
    omega
  · rw [if_neg ec, if_pos (by rw [hqmax]; omega)]
    unfold FP.Core.encode FP.Core.assemble
    rw [ht, ← hN]
    simp only []
    rw [if_neg (by omega), show ((a : Int) - b - m + 1 - f.qmin).toNat + 1 = (f.emax + a - b) + 1 from by rw [hqmin]; omega]
    simp only [Bool.toNat_false, Nat.zero_mul, Nat.zero_add, hK]
    omega
end FPQ
