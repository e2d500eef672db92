/-! the quotient's bits: the division -/
section FPD
set_option maxRecDepth 8192 in
theorem fp_whole {f : FP.Core.Fmt} (hf : FP.Core.Good f) {p : Nat} (hp0 : 0 < p) (hp : p < 2 ^ 20) (h20 : 20 ≤ f.p) (hE : 100 ≤ f.emax) : ∃ n : Nat, FP.Core.round f (FP.Core.ofInt (p : Int)) = .fin false (p * 2 ^ n) (-(n : Int)) := by
  have hk1 : 2 ^ p.log2 ≤ p := Nat.log2_self_le (by omega)
  have hk2 : p < 2 ^ (p.log2 + 1) := Nat.lt_log2_self
  have hk : p.log2 < 20 := by
    apply Nat.lt_of_not_le
    intro h
    have := Nat.pow_le_pow_right (show 0 < 2 from by decide) h
    omega
  obtain ⟨k, hkd⟩ : ∃ k, k = p.log2 := ⟨_, rfl⟩
  rw [← hkd] at hk1 hk2 hk
  refine ⟨f.p - 1 - k, ?_⟩
  have hd : decide ((p : Int) < 0) = false := decide_eq_false (by omega)
  show FP.Core.roundRatio f (decide ((p : Int) < 0)) (p : Int).natAbs 1 0 = _
  rw [hd, Int.natAbs_natCast]
  obtain ⟨n, hn⟩ : ∃ n, n = f.p - 1 - k := ⟨_, rfl⟩
  rw [← hn]
  refine FP.Core.roundRatio_exact hf (by decide) ⟨?_, ?_, ?_, Or.inr ?_⟩ ?_
  · have : 2 ^ f.p = 2 ^ (k + 1) * 2 ^ n := by rw [← Nat.pow_add]; congr 1; omega
    rw [this]
    exact Nat.mul_lt_mul_of_pos_right hk2 (Nat.two_pow_pos n)
  · unfold FP.Core.Fmt.qmin
    omega
  · unfold FP.Core.Fmt.qmax
    omega
  · have : f.tails = 2 ^ k * 2 ^ n := by unfold FP.Core.Fmt.tails; rw [← Nat.pow_add]; congr 1; omega
    rw [this]
    exact Nat.mul_le_mul_right _ hk1
  · rw [show ((0 : Int) - -(n : Int)).toNat = n from by omega, show (-(n : Int) - 0).toNat = 0 from by omega, Nat.pow_zero, Nat.mul_one, Nat.mul_one]
set_option maxRecDepth 8192 in
theorem fp_quot {f : FP.Core.Fmt} (hf : FP.Core.Good f) {p q : Nat} (hp0 : 0 < p) (hp : p < 2 ^ 20) (hq0 : 0 < q) (hq : q < 2 ^ 20) (h20 : 20 ≤ f.p) (hE : 100 ≤ f.emax) : FP.Core.quotient f (FP.Core.round f (FP.Core.ofInt (p : Int))) (FP.Core.round f (FP.Core.ofInt (q : Int))) = FP.Core.roundRatio f false p q 0 := by
  obtain ⟨n, h1⟩ := fp_whole hf hp0 hp h20 hE
  obtain ⟨k, h2⟩ := fp_whole hf hq0 hq h20 hE
  have hqk : 0 < q * 2 ^ k := Nat.mul_pos hq0 (Nat.two_pow_pos k)
  rw [h1, h2]
  show (if q * 2 ^ k = 0 then _ else FP.Core.roundRatio f (false != false) (p * 2 ^ n) (q * 2 ^ k) (-(n : Int) - -(k : Int))) = _
  rw [if_neg (by omega)]
  refine FP.Core.roundRatio_congr hqk hq0 ?_
  by_cases e : n ≤ k
  · rw [show (-(n : Int) - -(k : Int) - 0).toNat = k - n from by omega, show (0 - (-(n : Int) - -(k : Int))).toNat = 0 from by omega, Nat.pow_zero, Nat.mul_one]
    have : 2 ^ k = 2 ^ n * 2 ^ (k - n) := by rw [← Nat.pow_add]; congr 1; omega
    rw [this]
    simp only [Nat.mul_assoc, Nat.mul_comm, Nat.mul_left_comm]
  · rw [show (-(n : Int) - -(k : Int) - 0).toNat = 0 from by omega, show (0 - (-(n : Int) - -(k : Int))).toNat = n - k from by omega, Nat.pow_zero, Nat.mul_one]
    have : 2 ^ n = 2 ^ k * 2 ^ (n - k) := by rw [← Nat.pow_add]; congr 1; omega
    rw [this]
    simp only [Nat.mul_assoc, Nat.mul_comm, Nat.mul_left_comm]
set_option maxRecDepth 8192 in
theorem fp_ddiv {p q : Nat} (hp0 : 0 < p) (hp : p < 2 ^ 20) (hq0 : 0 < q) (hq : q < 2 ^ 20) : FP.ddiv (FP.l2d (lN p)) (FP.i2d (nI q)) = FP.Core.of64 (FP.Core.roundRatio FP.Core.b64 false p q 0) := by
  have h1 : (lN p).toInt = (p : Int) := by rw [lN_ti (by omega), if_pos (by omega)]
  have h2 : (nI q).toInt = (q : Int) := nI_toInt (by omega)
  have hd : FP.ddiv (FP.l2d (lN p)) (FP.i2d (nI q)) = FP.Core.of64 (FP.Core.quotient FP.Core.b64 (FP.Core.val64 (FP.Core.l2d (lN p))) (FP.Core.val64 (FP.Core.i2d (nI q)))) := rfl
  rw [hd, FP.Core.val64_l2d, FP.Core.val64_i2d, h1, h2, fp_quot FP.Core.good_b64 hp0 hp hq0 hq (by decide) (by decide)]
set_option maxRecDepth 8192 in
theorem fp_fdiv {p q : Nat} (hp0 : 0 < p) (hp : p < 2 ^ 20) (hq0 : 0 < q) (hq : q < 2 ^ 20) : FP.fdiv (FP.i2f (nI p)) (FP.l2f (lN q)) = FP.Core.of32 (FP.Core.roundRatio FP.Core.b32 false p q 0) := by
  have h1 : (lN q).toInt = (q : Int) := by rw [lN_ti (by omega), if_pos (by omega)]
  have h2 : (nI p).toInt = (p : Int) := nI_toInt (by omega)
  have hd : FP.fdiv (FP.i2f (nI p)) (FP.l2f (lN q)) = FP.Core.of32 (FP.Core.quotient FP.Core.b32 (FP.Core.val32 (FP.Core.i2f (nI p))) (FP.Core.val32 (FP.Core.l2f (lN q)))) := rfl
  rw [hd, FP.Core.val32_i2f, FP.Core.val32_l2f, h1, h2, fp_quot FP.Core.good_b32 hp0 hp hq0 hq (by decide) (by decide)]
end FPD
