/-! sets of objects as longs: hb_mk p has bit j for p j, j < 40 -/
def pb_n (p : Nat → Bool) : Nat → Nat
  | 0 => 0
  | n + 1 => pb_n p n + (if p n then 2 ^ n else 0)
theorem pb_n_lt (p : Nat → Bool) : ∀ n, pb_n p n < 2 ^ n
  | 0 => by simp [pb_n]
  | n + 1 => by
    have := pb_n_lt p n
    rw [pb_n, Nat.pow_succ]
    split <;> omega
theorem pb_n_bit (p : Nat → Bool) : ∀ n j, (pb_n p n).testBit j = (decide (j < n) && p j)
  | 0, j => by simp [pb_n]
  | n + 1, j => by
    have h := pb_n_bit p n j
    have hl := pb_n_lt p n
    have hl1 := pb_n_lt p (n + 1)
    rcases Nat.lt_trichotomy j n with hj | hj | hj
    · rw [pb_n]
      by_cases hp : p n = true
      · rw [if_pos hp, Nat.add_comm, Nat.testBit_two_pow_add_gt hj, h]
        simp [hj, Nat.lt_succ_of_lt hj]
      · rw [if_neg hp, Nat.add_zero, h]
        simp [hj, Nat.lt_succ_of_lt hj]
    · subst hj
      rw [pb_n]
      by_cases hp : p j = true
      · rw [if_pos hp, Nat.add_comm, Nat.testBit_two_pow_add_eq, h]
        simp [hp]
      · rw [if_neg hp, Nat.add_zero, h]
        simp [hp]
    · rw [Nat.testBit_lt_two_pow (Nat.lt_of_lt_of_le hl1 (Nat.pow_le_pow_right (by decide) hj))]
      have : ¬ j < n + 1 := by omega
      simp [this]
def hb_mk (p : Nat → Bool) : Int64 := lN (pb_n p 40)
def pb_t (x : Int64) (j : Nat) : Bool := x.toBitVec.getLsbD j
theorem pb_lt40 (p : Nat → Bool) : pb_n p 40 < 2 ^ 40 := pb_n_lt p 40
theorem pb_lt (p : Nat → Bool) : pb_n p 40 < 2 ^ 62 := Nat.lt_trans (pb_n_lt p 40) (by decide)
theorem pb_mk_t (p : Nat → Bool) (j : Nat) : pb_t (hb_mk p) j = (decide (j < 40) && p j) := by
  unfold pb_t hb_mk
  rw [wb_tb, BitVec.getLsbD_ofNat, pb_n_bit]
  by_cases h : j < 40
  · have : j < 64 := by omega
    simp [h, this]
  · simp [h]
theorem pb_ext {x y : Int64} (h : ∀ j, j < 64 → pb_t x j = pb_t y j) : x = y := Int64.toBitVec_inj.mp (BitVec.eq_of_getLsbD_eq (fun i hi => h i hi))
theorem pb_congr {p q : Nat → Bool} (h : ∀ j, j < 40 → p j = q j) : hb_mk p = hb_mk q := by
  apply pb_ext
  intro j _
  rw [pb_mk_t, pb_mk_t]
  by_cases hj : j < 40
  · rw [h j hj]
  · simp [hj]
theorem pb_inj {p q : Nat → Bool} (h : hb_mk p = hb_mk q) {j : Nat} (hj : j < 40) : p j = q j := by
  have := congrArg (fun x => pb_t x j) h
  simp only [pb_mk_t, hj, decide_true, Bool.true_and] at this
  exact this
theorem pb_or (p q : Nat → Bool) : hb_mk p ||| hb_mk q = hb_mk (fun j => p j || q j) := by
  apply pb_ext
  intro j _
  have h : pb_t (hb_mk p ||| hb_mk q) j = (pb_t (hb_mk p) j || pb_t (hb_mk q) j) := by unfold pb_t; rw [Int64.toBitVec_or, BitVec.getLsbD_or]
  rw [h, pb_mk_t, pb_mk_t, pb_mk_t, Bool.and_or_distrib_left]
theorem pb_and (p q : Nat → Bool) : hb_mk p &&& hb_mk q = hb_mk (fun j => p j && q j) := by
  apply pb_ext
  intro j _
  have h : pb_t (hb_mk p &&& hb_mk q) j = (pb_t (hb_mk p) j && pb_t (hb_mk q) j) := by unfold pb_t; rw [Int64.toBitVec_and, BitVec.getLsbD_and]
  rw [h, pb_mk_t, pb_mk_t, pb_mk_t]
  cases decide (j < 40) <;> simp
theorem pb_m1 : ∀ j, j < 64 → pb_t (-1) j = true := by decide +kernel
theorem pb_anot (p q : Nat → Bool) : hb_mk p &&& (hb_mk q ^^^ (-1)) = hb_mk (fun j => p j && !q j) := by
  apply pb_ext
  intro j hj
  have h : pb_t (hb_mk p &&& (hb_mk q ^^^ (-1))) j = (pb_t (hb_mk p) j && (pb_t (hb_mk q) j ^^ pb_t (-1) j)) := by unfold pb_t; rw [Int64.toBitVec_and, BitVec.getLsbD_and, Int64.toBitVec_xor, BitVec.getLsbD_xor]
  rw [h, pb_mk_t, pb_mk_t, pb_mk_t, pb_m1 j hj]
  cases decide (j < 40) <;> simp
theorem pb_0 : hb_mk (fun _ => false) = 0 := by decide +kernel
theorem pb_zero {p : Nat → Bool} : hb_mk p = 0 ↔ ∀ j, j < 40 → p j = false := by
  rw [← pb_0]
  constructor
  · intro h j hj
    exact pb_inj h hj
  · exact pb_congr
theorem pb_one {o : Nat} (ho : o < 40) : (1 : Int64) <<< ((nI o).toInt64 &&& 63) = hb_mk (fun j => decide (j = o)) := by
  rw [show (1 : Int64) = lN 1 from rfl, wb_shl 1 (by omega)]
  apply pb_ext
  intro j hj
  rw [pb_mk_t]
  unfold pb_t
  rw [wb_tb, BitVec.getLsbD_ofNat, Nat.one_mul, Nat.testBit_two_pow]
  by_cases h : j = o
  · subst h
    simp [ho, hj]
  · have : ¬ o = j := fun e => h e.symm
    simp [h, this]
def pb_b (b : Bool) : Nat := if b then 1 else 0
theorem pb_b01 (b : Bool) : pb_b b < 2 := by cases b <;> decide
theorem pb_dm {p : Nat → Bool} {o : Nat} (ho : o < 40) : pb_n p 40 / 2 ^ o % 2 = pb_b (p o) := by
  have h := pb_n_bit p 40 o
  rw [Nat.testBit_eq_decide_div_mod_eq] at h
  simp only [ho, decide_true, Bool.true_and] at h
  have h2 : pb_n p 40 / 2 ^ o % 2 < 2 := Nat.mod_lt _ (by decide)
  cases hp : p o with
  | true =>
    rw [hp] at h
    simpa [pb_b] using h
  | false =>
    rw [hp] at h
    have : ¬ pb_n p 40 / 2 ^ o % 2 = 1 := by simpa using h
    simp only [pb_b]
    rw [if_neg (by decide)]
    omega
theorem pb_cU {p : Nat → Bool} {o : Nat} (ho : o < 40) : ((hb_mk p).toUInt64 >>> ((nI o).toInt64.toUInt64 &&& Int64.toUInt64 63)).toInt64 &&& 1 = lN (pb_b (p o)) := by
  unfold hb_mk
  rw [wb_bit (Nat.lt_trans (pb_lt p) (by decide)) (by omega), pb_dm ho]
theorem pb_cS {p : Nat → Bool} {o : Nat} (ho : o < 40) : ((hb_mk p) >>> ((nI o).toInt64 &&& 63)) &&& 1 = lN (pb_b (p o)) := by
  unfold hb_mk
  rw [pf_shr (d := o) (by rw [wb_c o (by omega), wb_tb, wb_sm o (by omega), BitVec.toNat_ofNat]; exact Nat.mod_eq_of_lt (by omega)) (pb_lt p), wb_a1 (Nat.lt_of_le_of_lt (Nat.div_le_self _ _) (Nat.lt_trans (pb_lt p) (by decide))), pb_dm ho]
theorem pb_cmp0 {x y : Int64} : lg_cmp x y = nI 0 ↔ x = y := by
  unfold lg_cmp
  constructor
  · intro h
    split at h
    · exact absurd h (by decide)
    · split at h
      · assumption
      · exact absurd h (by decide)
  · intro h
    subst h
    rw [if_neg (fun h => Int64.lt_irrefl h), if_pos rfl]
    rfl
theorem pb_l1 {b : Bool} : lN (pb_b b) = 1 ↔ b = true := by cases b <;> decide
theorem pb_l0 {b : Bool} : lN (pb_b b) = 0 ↔ b = false := by cases b <;> decide
/-! numbers by fields of b bits, for the counting of bits -/
def pf_f (b : Nat) (f : Nat → Nat) : Nat → Nat
  | 0 => 0
  | k + 1 => pf_f b f k + f k * 2 ^ (b * k)
theorem pf_f_lt {b : Nat} {f : Nat → Nat} : ∀ k, (∀ i, i < k → f i < 2 ^ b) → pf_f b f k < 2 ^ (b * k)
  | 0, _ => by simp [pf_f]
  | k + 1, h => by
    have h1 := pf_f_lt k (fun i hi => h i (by omega))
    have h2 := h k (by omega)
    rw [pf_f, Nat.mul_succ, Nat.pow_add]
    have : f k * 2 ^ (b * k) + 2 ^ (b * k) ≤ 2 ^ b * 2 ^ (b * k) := by
      rw [← Nat.succ_mul]; exact Nat.mul_le_mul_right _ h2
    rw [Nat.mul_comm (2 ^ (b * k))]
    omega
theorem pf_f_add {b : Nat} {f g : Nat → Nat} : ∀ k, pf_f b (fun i => f i + g i) k = pf_f b f k + pf_f b g k
  | 0 => rfl
  | k + 1 => by
    rw [pf_f, pf_f, pf_f, pf_f_add k, Nat.add_mul]
    omega
theorem pf_f_cong {b : Nat} {f g : Nat → Nat} : ∀ k, (∀ i, i < k → f i = g i) → pf_f b f k = pf_f b g k
  | 0, _ => rfl
  | k + 1, h => by
    rw [pf_f, pf_f, pf_f_cong k (fun i hi => h i (by omega)), h k (by omega)]
theorem pf_f_pair {b : Nat} {f : Nat → Nat} : ∀ k, pf_f b f (2 * k) = pf_f (2 * b) (fun i => f (2 * i) + f (2 * i + 1) * 2 ^ b) k
  | 0 => rfl
  | k + 1 => by
    rw [show 2 * (k + 1) = 2 * k + 1 + 1 from by omega, pf_f, pf_f, pf_f, pf_f_pair k, Nat.add_mul, show b * (2 * k) = 2 * b * k from by rw [Nat.mul_left_comm, Nat.mul_assoc], show b * (2 * k + 1) = b + 2 * b * k from by rw [Nat.mul_add, Nat.mul_left_comm, Nat.mul_assoc]; omega, Nat.pow_add, Nat.mul_assoc]
    simp only [Nat.mul_assoc]
    omega
theorem pf_f_shift {b : Nat} {f : Nat → Nat} : ∀ k, pf_f b f (k + 1) = f 0 + pf_f b (fun i => f (i + 1)) k * 2 ^ b
  | 0 => by simp [pf_f]
  | k + 1 => by
    rw [pf_f, pf_f_shift k, pf_f, Nat.add_mul, Nat.mul_succ, Nat.pow_add, Nat.mul_assoc]
    omega
theorem pf_f_div {b : Nat} {f : Nat → Nat} (h : f 0 < 2 ^ b) (k : Nat) : pf_f b f (k + 1) / 2 ^ b = pf_f b (fun i => f (i + 1)) k := by
  rw [pf_f_shift, Nat.add_mul_div_right _ _ (Nat.two_pow_pos b), Nat.div_eq_of_lt h, Nat.zero_add]
theorem pf_and {m A B u v : Nat} (hA : A < 2 ^ m) (hB : B < 2 ^ m) : (A + u * 2 ^ m) &&& (B + v * 2 ^ m) = (A &&& B) + (u &&& v) * 2 ^ m := by
  apply Nat.eq_of_testBit_eq
  intro j
  have hAB : A &&& B < 2 ^ m := Nat.lt_of_le_of_lt Nat.and_le_left hA
  rw [Nat.testBit_and, Nat.add_comm A, Nat.add_comm B, Nat.add_comm (A &&& B), Nat.mul_comm u, Nat.mul_comm v, Nat.mul_comm (u &&& v), Nat.testBit_two_pow_mul_add u hA, Nat.testBit_two_pow_mul_add v hB, Nat.testBit_two_pow_mul_add (u &&& v) hAB]
  by_cases hj : j < m
  · simp [hj]
  · simp [hj]
theorem pf_mask {b : Nat} {f : Nat → Nat} : ∀ k, (∀ i, i < k → f i < 2 ^ b) → ∀ g : Nat, (g < 2 ^ b) → pf_f b f k &&& pf_f b (fun _ => g) k = pf_f b (fun i => f i &&& g) k
  | 0, _, _, _ => by simp [pf_f]
  | k + 1, h, g, hg => by
    rw [pf_f, pf_f, pf_f, pf_and (pf_f_lt k (fun i hi => h i (by omega))) (pf_f_lt k (fun _ _ => hg)), pf_mask k (fun i hi => h i (by omega)) g hg]
theorem pf_even {b : Nat} {f : Nat → Nat} {k : Nat} (h : ∀ i, i < 2 * k → f i < 2 ^ b) : pf_f b f (2 * k) &&& pf_f (2 * b) (fun _ => 2 ^ b - 1) k = pf_f (2 * b) (fun i => f (2 * i)) k := by
  have hp := Nat.two_pow_pos b
  have h2 : 2 ^ (2 * b) = 2 ^ b * 2 ^ b := by rw [← Nat.pow_add]; congr 1; omega
  have e : 2 ^ b ≤ 2 ^ b * 2 ^ b := Nat.le_mul_of_pos_left _ hp
  rw [pf_f_pair, pf_mask]
  · apply pf_f_cong
    intro i hi
    rw [Nat.and_two_pow_sub_one_eq_mod, Nat.add_mul_mod_self_right, Nat.mod_eq_of_lt (h _ (by omega))]
  · intro i hi
    have a1 := h (2 * i) (by omega)
    have a2 := h (2 * i + 1) (by omega)
    rw [h2]
    have : f (2 * i + 1) * 2 ^ b + 2 ^ b ≤ 2 ^ b * 2 ^ b := by rw [← Nat.succ_mul]; exact Nat.mul_le_mul_right _ a2
    omega
  · rw [h2]; omega
theorem pb_fld (p : Nat → Bool) : ∀ n, pb_n p n = pf_f 1 (fun i => pb_b (p i)) n
  | 0 => rfl
  | n + 1 => by
    rw [pb_n, pf_f, pb_fld p n, Nat.one_mul, pb_b]
    split <;> simp
theorem pb_more (p : Nat → Bool) (m : Nat) : ∀ n, pb_n (fun j => decide (j < m) && p j) (m + n) = pb_n p m
  | 0 => by
    have : ∀ k, k ≤ m → pb_n (fun j => decide (j < m) && p j) k = pb_n p k := by
      intro k
      induction k with
      | zero => intro _; rfl
      | succ k ih =>
        intro hk
        have hk2 : k < m := by omega
        rw [pb_n, pb_n, ih (by omega)]
        simp [hk2]
    exact this m (Nat.le_refl m)
  | n + 1 => by
    rw [Nat.add_succ, pb_n, pb_more p m n]
    have : ¬ m + n < m := by omega
    simp [this]
theorem pc_ct (p : Nat → Bool) (n : Nat) : fb_ct p n = fb_sm (fun i => pb_b (p i)) n := by
  induction n with
  | zero => rfl
  | succ n ih => rw [fb_ct_succ, fb_sm_succ, ih, pb_b]
theorem pc_ct64 (p : Nat → Bool) (n : Nat) (m : Nat) : fb_ct (fun j => decide (j < m) && p j) (m + n) = fb_ct p m := by
  have h0 : fb_ct (fun k => decide (m + k < m) && p (m + k)) n = 0 := fb_ct_zero.mpr (fun k _ => by
    have : ¬ m + k < m := by omega
    simp only [this, decide_false, Bool.false_and])
  rw [fb_ct_split, fb_ct_cong (q := p) (n := m) (fun k hk => by simp [hk]), h0, Nat.add_zero]
theorem pf_f_pad {b : Nat} {f : Nat → Nat} {k : Nat} : ∀ m, pf_f b (fun i => if i < k then f i else 0) (k + m) = pf_f b f k
  | 0 => pf_f_cong k (fun i hi => by rw [if_pos hi])
  | m + 1 => by
    rw [Nat.add_succ, pf_f, pf_f_pad m, if_neg (by omega), Nat.zero_mul, Nat.add_zero]
theorem pf_f_divs {b : Nat} : ∀ (s : Nat) {f : Nat → Nat} (k : Nat), (∀ i, i < s → f i < 2 ^ b) → pf_f b f (k + s) / 2 ^ (b * s) = pf_f b (fun i => f (i + s)) k
  | 0, f, k, _ => by simp
  | s + 1, f, k, h => by
    rw [Nat.mul_succ, Nat.add_comm (b * s) b, Nat.pow_add, ← Nat.div_div_eq_div_mul, ← Nat.add_assoc, pf_f_div (h 0 (by omega)), pf_f_divs s k (fun i hi => h (i + 1) (by omega))]
    exact pf_f_cong k (fun i _ => by rw [Nat.add_assoc])
/-! a number of k fields, and the same moved by s fields, added -/
theorem pf_f_sh {b s k : Nat} {f : Nat → Nat} (h : ∀ i, f i < 2 ^ b) (hs : s ≤ k) : pf_f b f k + pf_f b f k / 2 ^ (b * s) = pf_f b (fun i => f i + (if i < k - s then f (i + s) else 0)) k := by
  obtain ⟨j, rfl⟩ : ∃ j, k = j + s := ⟨k - s, by omega⟩
  rw [pf_f_divs s j (fun i _ => h i), Nat.add_sub_cancel, pf_f_add, pf_f_pad (f := fun i => f (i + s)) s]
theorem fb_sm_pair (d : Nat → Nat) : ∀ k, fb_sm d (2 * k) = fb_sm (fun i => d (2 * i) + d (2 * i + 1)) k
  | 0 => rfl
  | k + 1 => by
    rw [show 2 * (k + 1) = 2 * k + 1 + 1 from by omega, fb_sm_succ, fb_sm_succ, fb_sm_succ, fb_sm_pair d k, Nat.add_assoc]
/-! half of the fields, from place s on, by a mask -/
theorem pf_odd {b : Nat} {f : Nat → Nat} {k : Nat} (h : ∀ i, f i < 2 ^ b) : pf_f b f (2 * k) / 2 ^ b &&& pf_f (2 * b) (fun _ => 2 ^ b - 1) k = pf_f (2 * b) (fun i => f (2 * i + 1)) k := by
  cases k with
  | zero => simp [pf_f]
  | succ j =>
    have e := pf_f_divs (b := b) 1 (f := f) (2 * j + 1) (fun i _ => h i)
    rw [Nat.mul_one] at e
    rw [show 2 * (j + 1) = 2 * j + 1 + 1 from by omega, e, ← pf_f_pad (f := fun i => f (i + 1)) 1, show 2 * j + 1 + 1 = 2 * (j + 1) from by omega, pf_even]
    · exact pf_f_cong (j + 1) (fun i hi => by rw [if_pos (by omega)])
    · intro i _
      split
      · exact h _
      · exact Nat.two_pow_pos b
theorem pc_bits {d : Nat → Nat} (hd : ∀ i, d i < 2) {n : Nat} (hn : n = pf_f 1 d 64) {σ : hb_M} : f_J13_bitCount_95d88 (lN n) σ = some (nI (fb_sm d 64), σ) := by
  have hlt : n < 2 ^ 64 := by rw [hn]; exact pf_f_lt 64 (fun i _ => hd i)
  obtain ⟨c, hc⟩ : ∃ c : Nat → Nat, c = fun i => d (2 * i) + d (2 * i + 1) := ⟨_, rfl⟩
  have hc2 : ∀ i, c i ≤ 2 := fun i => by have := hd (2 * i); have := hd (2 * i + 1); rw [hc]; show d (2 * i) + d (2 * i + 1) ≤ 2; omega
  obtain ⟨e, he⟩ : ∃ e : Nat → Nat, e = fun i => c (2 * i) + c (2 * i + 1) := ⟨_, rfl⟩
  have he2 : ∀ i, e i ≤ 4 := fun i => by have := hc2 (2 * i); have := hc2 (2 * i + 1); rw [he]; show c (2 * i) + c (2 * i + 1) ≤ 4; omega
  obtain ⟨g, hg⟩ : ∃ g : Nat → Nat, g = fun i => e (2 * i) + e (2 * i + 1) := ⟨_, rfl⟩
  have hg2 : ∀ i, g i ≤ 8 := fun i => by have := he2 (2 * i); have := he2 (2 * i + 1); rw [hg]; show e (2 * i) + e (2 * i + 1) ≤ 8; omega
  have hsum : fb_sm d 64 = g 0 + g 1 + g 2 + g 3 + g 4 + g 5 + g 6 + g 7 := by
    rw [show (64 : Nat) = 2 * 32 from rfl, fb_sm_pair, ← hc, show (32 : Nat) = 2 * 16 from rfl, fb_sm_pair, ← he, show (16 : Nat) = 2 * 8 from rfl, fb_sm_pair, ← hg]
    simp only [fb_sm, Nat.zero_add]
  -- step 1
  have s1 : n / 2 ^ 1 &&& 6148914691236517205 = pf_f 2 (fun i => d (2 * i + 1)) 32 := by
    rw [hn, show (6148914691236517205 : Nat) = pf_f (2 * 1) (fun _ => 2 ^ 1 - 1) 32 from by decide +kernel, show (64 : Nat) = 2 * 32 from rfl, pf_odd (fun i => hd i)]
  have n1 : n = pf_f 2 c 32 + pf_f 2 (fun i => d (2 * i + 1)) 32 := by
    rw [← pf_f_add, hn, show (64 : Nat) = 2 * 32 from rfl, pf_f_pair, hc]
    exact pf_f_cong 32 (fun i hi => by show _ = d (2 * i) + d (2 * i + 1) + d (2 * i + 1); omega)
  have b1 : pf_f 2 c 32 < 2 ^ 64 := pf_f_lt 32 (fun i _ => by have := hc2 i; omega)
  have r1 : lN n - (((lN n).toUInt64 >>> ((1 : Int32).toInt64.toUInt64 &&& Int64.toUInt64 63)).toInt64 &&& (6148914691236517205 : Int64)) = lN (pf_f 2 c 32) := by
    rw [show (1 : Int32) = nI 1 from rfl, wb_shr hlt (by decide), show (6148914691236517205 : Int64) = lN 6148914691236517205 from rfl, wb_and (Nat.lt_of_le_of_lt (Nat.div_le_self _ _) hlt) (by decide), s1, lN_sub (by omega)]
    congr 1
    omega
  -- step 2
  have s2a : pf_f 2 c 32 &&& 3689348814741910323 = pf_f 4 (fun i => c (2 * i)) 16 := by
    rw [show (32 : Nat) = 2 * 16 from rfl, show (3689348814741910323 : Nat) = pf_f (2 * 2) (fun _ => 2 ^ 2 - 1) 16 from by decide +kernel, pf_even (fun i _ => by have := hc2 i; omega)]
  have s2b : pf_f 2 c 32 / 2 ^ 2 &&& 3689348814741910323 = pf_f 4 (fun i => c (2 * i + 1)) 16 := by
    rw [show (3689348814741910323 : Nat) = pf_f (2 * 2) (fun _ => 2 ^ 2 - 1) 16 from by decide +kernel, show (32 : Nat) = 2 * 16 from rfl, pf_odd (fun i => by have := hc2 i; omega)]
  have b2 : pf_f 4 e 16 < 2 ^ 64 := pf_f_lt 16 (fun i _ => by have := he2 i; omega)
  have r2 : (lN (pf_f 2 c 32) &&& (3689348814741910323 : Int64)) + (((lN (pf_f 2 c 32)).toUInt64 >>> ((2 : Int32).toInt64.toUInt64 &&& Int64.toUInt64 63)).toInt64 &&& (3689348814741910323 : Int64)) = lN (pf_f 4 e 16) := by
    rw [show (2 : Int32) = nI 2 from rfl, wb_shr b1 (by decide), show (3689348814741910323 : Int64) = lN 3689348814741910323 from rfl, wb_and b1 (by decide), wb_and (Nat.lt_of_le_of_lt (Nat.div_le_self _ _) b1) (by decide), s2a, s2b, lN_add, ← pf_f_add, he]
  -- step 3
  have k3 : ∀ i, e i + (if i < 16 - 1 then e (i + 1) else 0) < 2 ^ 4 := fun i => by
    have := he2 i; have := he2 (i + 1)
    split <;> omega
  have h3 : pf_f 4 e 16 + pf_f 4 e 16 / 2 ^ 4 = pf_f 4 (fun i => e i + (if i < 16 - 1 then e (i + 1) else 0)) 16 := pf_f_sh (b := 4) (s := 1) (k := 16) (fun i => by have := he2 i; omega) (by decide)
  have s3 : (pf_f 4 e 16 + pf_f 4 e 16 / 2 ^ 4) &&& 1085102592571150095 = pf_f 8 g 8 := by
    rw [h3, show (1085102592571150095 : Nat) = pf_f (2 * 4) (fun _ => 2 ^ 4 - 1) 8 from by decide +kernel]
    refine (pf_even (k := 8) (fun i _ => k3 i)).trans ?_
    rw [hg]
    exact pf_f_cong 8 (fun i hi => by rw [if_pos (by omega)])
  have b3 : pf_f 4 e 16 + pf_f 4 e 16 / 2 ^ 4 < 2 ^ 64 := by
    rw [h3]
    exact pf_f_lt 16 (fun i _ => k3 i)
  have r3 : ((lN (pf_f 4 e 16) + ((lN (pf_f 4 e 16)).toUInt64 >>> ((4 : Int32).toInt64.toUInt64 &&& Int64.toUInt64 63)).toInt64) &&& (1085102592571150095 : Int64)) = lN (pf_f 8 g 8) := by
    rw [show (4 : Int32) = nI 4 from rfl, wb_shr b2 (by decide), lN_add, show (1085102592571150095 : Int64) = lN 1085102592571150095 from rfl, wb_and b3 (by decide), s3]
  -- the rest: the lowest field gathers them all
  obtain ⟨g4, hg4⟩ : ∃ g4 : Nat → Nat, g4 = fun i => g i + (if i < 8 - 1 then g (i + 1) else 0) := ⟨_, rfl⟩
  have k4 : ∀ i, g4 i ≤ 16 := fun i => by
    have := hg2 i; have := hg2 (i + 1)
    rw [hg4]
    show g i + (if i < 8 - 1 then g (i + 1) else 0) ≤ 16
    split <;> omega
  obtain ⟨g5, hg5⟩ : ∃ g5 : Nat → Nat, g5 = fun i => g4 i + (if i < 8 - 2 then g4 (i + 2) else 0) := ⟨_, rfl⟩
  have k5 : ∀ i, g5 i ≤ 32 := fun i => by
    have := k4 i; have := k4 (i + 2)
    rw [hg5]
    show g4 i + (if i < 8 - 2 then g4 (i + 2) else 0) ≤ 32
    split <;> omega
  obtain ⟨g6, hg6⟩ : ∃ g6 : Nat → Nat, g6 = fun i => g5 i + (if i < 8 - 4 then g5 (i + 4) else 0) := ⟨_, rfl⟩
  have h4 : pf_f 8 g 8 + pf_f 8 g 8 / 2 ^ 8 = pf_f 8 g4 8 := by
    rw [hg4]
    exact pf_f_sh (b := 8) (s := 1) (k := 8) (fun i => by have := hg2 i; omega) (by decide)
  have h5 : pf_f 8 g4 8 + pf_f 8 g4 8 / 2 ^ 16 = pf_f 8 g5 8 := by
    rw [hg5]
    exact pf_f_sh (b := 8) (s := 2) (k := 8) (fun i => by have := k4 i; omega) (by decide)
  have h6 : pf_f 8 g5 8 + pf_f 8 g5 8 / 2 ^ 32 = pf_f 8 g6 8 := by
    rw [hg6]
    exact pf_f_sh (b := 8) (s := 4) (k := 8) (fun i => by have := k5 i; omega) (by decide)
  have b4 : pf_f 8 g 8 < 2 ^ 64 := pf_f_lt 8 (fun i _ => by have := hg2 i; omega)
  have b5 : pf_f 8 g4 8 < 2 ^ 64 := pf_f_lt 8 (fun i _ => by have := k4 i; omega)
  have b6 : pf_f 8 g5 8 < 2 ^ 64 := pf_f_lt 8 (fun i _ => by have := k5 i; omega)
  have h7 : g6 0 = g 0 + g 1 + g 2 + g 3 + g 4 + g 5 + g 6 + g 7 := by
    rw [hg6, hg5, hg4]
    simp
    omega
  have h8 : g6 0 ≤ 64 := by
    rw [hg6]
    have := k5 0; have := k5 4
    simp
    omega
  unfold f_J13_bitCount_95d88
  simp only [Option.bind_some]
  rw [r1, r2, r3, show (8 : Int32) = nI 8 from rfl, wb_shr b4 (by decide), lN_add, h4, show (16 : Int32) = nI 16 from rfl, wb_shr b5 (by decide), lN_add, h5, show (32 : Int32) = nI 32 from rfl, wb_shr b6 (by decide), lN_add, h6, lN_i]
  have hz : ∀ N : Nat, nI N &&& (127 : Int32) = nI (N % 128) := fun N => fa_mask N 7
  have h9 : pf_f 8 g6 8 % 128 = g6 0 := by
    rw [show (8 : Nat) = 7 + 1 from rfl, pf_f_shift]
    omega
  rw [hz, h9, h7, hsum]
theorem pc_bitCount (p : Nat → Bool) (σ : hb_M) : f_J13_bitCount_95d88 (hb_mk p) σ = some (nI (fb_ct p 40), σ) := by
  unfold hb_mk
  have e1 : pb_n p 40 = pf_f 1 (fun i => pb_b (decide (i < 40) && p i)) 64 := by
    rw [← pb_more p 40 24]
    exact pb_fld _ 64
  rw [pc_bits (fun i => pb_b01 _) e1, ← pc_ct, ← pc_ct64 p 24 40]
