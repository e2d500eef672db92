/-! the text and its reading -/
def tl (t : Nat) (T : Nat → Nat) (p : Nat) : Nat := if p < t then T p + 1 else 0
def tn (t : Nat) (T : Nat → Nat) (p : Nat) (f : Bool) : Nat := if f then 0 else tl t T p
def sL (k : Nat) : List Nat := if k = 1 then [115, 114, 100, 105, 111, 97, 110, 103] else if k = 2 then [60, 61, 62] else [110, 97, 119, 99, 115, 43, 45]
def tk (t : Nat) (T : Nat → Nat) (p : Nat) (f : Bool) (c : Nat) : Bool := decide (tn t T p f = c + 1)
def to (t : Nat) (T : Nat → Nat) (p : Nat) (f : Bool) (k : Nat) : Bool := decide (tn t T p f ≠ 0) && (sL k).contains (tn t T p f - 1)
def td (t : Nat) (T : Nat → Nat) (p : Nat) : Bool := decide (49 ≤ tl t T p ∧ tl t T p ≤ 58)
/-- how many digits, at most m; and the number -/
def tc (t : Nat) (T : Nat → Nat) : Nat → Nat → Nat
  | 0, _ => 0
  | m + 1, p => if td t T p then tc t T m (p + 1) + 1 else 0
def tv (t : Nat) (T : Nat → Nat) : Nat → Nat → Nat → Nat
  | 0, _, v => v
  | m + 1, p, v => if td t T p then tv t T m (p + 1) (v * 10 + (T p - 48)) else v
def pt (I : Nat → Nat → Int32) (p : Nat) (f : Bool) : Nat → Nat → Int32 := up2 (up2 I 97 2 (nI p)) 97 3 (bI f)
set_option maxRecDepth 8192 in
theorem pt_2 (I : Nat → Nat → Int32) (p q : Nat) (f : Bool) : up2 (pt I p f) 97 2 (nI q) = pt I q f := by
  funext b i
  unfold pt up2
  by_cases e : b = 97 <;> by_cases e2 : i = 2 <;> by_cases e3 : i = 3 <;> simp [e, e2, e3]
set_option maxRecDepth 8192 in
theorem pt_3 (I : Nat → Nat → Int32) (p : Nat) (f g : Bool) : up2 (pt I p f) 97 3 (bI g) = pt I p g := by
  funext b i
  unfold pt up2
  by_cases e : b = 97 <;> by_cases e2 : i = 2 <;> by_cases e3 : i = 3 <;> simp [e, e2, e3]
set_option maxRecDepth 8192 in
theorem pt_pt (I : Nat → Nat → Int32) (p q : Nat) (f g : Bool) : pt (pt I p f) q g = pt I q g := by
  show up2 (up2 (pt I p f) 97 2 (nI q)) 97 3 (bI g) = _
  rw [pt_2, pt_3]
set_option maxRecDepth 8192 in
theorem pt_v2 (I : Nat → Nat → Int32) (p : Nat) (f : Bool) : pt I p f 97 2 = nI p := by simp [pt, up2]
set_option maxRecDepth 8192 in
theorem pt_v3 (I : Nat → Nat → Int32) (p : Nat) (f : Bool) : pt I p f 97 3 = bI f := by simp [pt, up2]
set_option maxRecDepth 8192 in
theorem pt_v1 (I : Nat → Nat → Int32) (p : Nat) (f : Bool) : pt I p f 97 1 = I 97 1 := by simp [pt, up2]
set_option maxRecDepth 8192 in
theorem pt_a {I : Nat → Nat → Int32} {p : Nat} {f : Bool} {a : Nat} (h : a ≠ 97) : pt I p f a = I a := by
  unfold pt
  rw [up2_a h, up2_a h]
set_option maxRecDepth 8192 in
theorem tc_le (t : Nat) (T : Nat → Nat) : ∀ m p, tc t T m p ≤ m := by
  intro m
  induction m with
  | zero => exact fun _ => Nat.le_refl 0
  | succ m ih =>
    intro p
    unfold tc
    have := ih (p + 1)
    split <;> omega
section TEXT
variable {I J : Nat → Nat → Int32} {L K : Nat → Nat → Int64} {r : Nat → Option Nat} {A : Nat → Nat → Nat} {n : Nat} {H : Nat → Nat → Nat → Nat} {t : Nat} {T : Nat → Nat} {P : Nat → Nat → Nat → Nat} {k : Nat → Bool} {B : Nat}
set_option maxRecDepth 8192 in
theorem tl_lt (hT : ∀ j, j < t → T j < 128) (p : Nat) : tl t T p ≤ 128 := by
  unfold tl
  split
  · have := hT p (by omega); omega
  · omega
set_option maxRecDepth 8192 in
theorem x7_next (h : cT I t T) (ht : t ≤ 100) {p : Nat} {f : Bool} (hp : p < 1000) : f_X7_next 97 (pm (pt I p f) L r) = some (mI (tn t T p f), pm (pt I p f) L r) := by
  unfold f_X7_next tn tl
  cases f
  · simp (disch := omega) only [pI_97_3, pbs, pt_v3, plit, bIn, if_true, pI_97_2, pt_v2, pn_lt0, if_false, pI_97_1, pt_v1, h.1, pn_lt, Bool.false_eq_true]
    by_cases e : p < t
    · simp (disch := omega) only [e, if_true, pR_97_0, pbs, pA_98, pt_a, h.2 p e, mI_s, Nat.not_lt_zero, if_false]
    · simp only [e, if_false, mI_0, ite_self]
  · simp only [pI_97_3, pbs, pt_v3, plit, bIn, Bool.true_eq_false, if_false, if_true, mI_0]
set_option maxRecDepth 8192 in
theorem tn_lt (hT : ∀ j, j < t → T j < 128) (p : Nat) (f : Bool) : tn t T p f ≤ 128 := by
  unfold tn
  split
  · omega
  · exact tl_lt hT p
set_option maxRecDepth 8192 in
theorem x7_skip (h : cT I t T) (ht : t ≤ 100) (hT : ∀ j, j < t → T j < 128) {p c : Nat} {f : Bool} (hp : p < 1000) (hc : c < 1000) : f_X7_skip 97 (nI c) (pm (pt I p f) L r) = some (bI (tk t T p f c), pm (pt I (if tk t T p f c then p + 1 else p) f) L r) := by
  have h1 := tn_lt (t := t) hT p f
  unfold f_X7_skip
  simp (disch := omega) only [pO_97, x7_next h ht hp, pbs, mI_nI, plit]
  unfold tk
  by_cases e : tn t T p f = c + 1
  · simp only [e, if_true, decide_true, pI_97_2, pbs, pt_v2, nI_add, pP_97_2, pt_2, bI_t]
  · simp only [e, if_false, decide_false, bI_f, Bool.false_eq_true]
set_option maxRecDepth 8192 in
theorem x7_fail {p : Nat} {f : Bool} : f_X7_fail 97 (pm (pt I p f) L r) = some (pm (pt I p true) L r) := by
  unfold f_X7_fail
  simp only [plit, pP_97_3 (Or.inr rfl), pbs]
  rw [← bI_t, pt_3]
set_option maxRecDepth 8192 in
theorem x7_expect (h : cT I t T) (ht : t ≤ 100) (hT : ∀ j, j < t → T j < 128) {p c : Nat} {f : Bool} (hp : p < 1000) (hc : c < 1000) : f_X7_expect 97 (nI c) (pm (pt I p f) L r) = some (pm (pt I (if tk t T p f c then p + 1 else p) (f || !tk t T p f c)) L r) := by
  unfold f_X7_expect
  simp (disch := omega) only [pO_97, x7_skip h ht hT hp hc, pbs, plit, bIn]
  cases e : tk t T p f c
  · simp only [if_true, x7_fail, pbs, Bool.not_false, Bool.or_true, Bool.false_eq_true, if_false]
  · have : f = false := by
      cases f
      · rfl
      · simp [tk, tn] at e
    simp only [Bool.true_eq_false, if_false, if_true, Bool.not_true, Bool.or_false]
set_option maxRecDepth 8192 in
theorem x7_atEnd (h : cT I t T) (ht : t ≤ 100) {p : Nat} {f : Bool} (hp : p < 1000) : f_X7_atEnd 97 (pm (pt I p f) L r) = some (bI (decide (t ≤ p)), pm (pt I p f) L r) := by
  unfold f_X7_atEnd
  simp (disch := omega) only [pI_97_2, pI_97_1, pbs, pt_v2, pt_v1, h.1, pn_lt, plit]
  by_cases e : p < t
  · rw [if_pos e, decide_eq_false (by omega)]
    rfl
  · rw [if_neg e, decide_eq_true (by omega)]
    rfl
set_option maxRecDepth 8192 in
theorem x7_begin : f_X7_begin 97 (pm I L r) = some (pm (pt I 0 false) L r) := by
  unfold f_X7_begin
  simp only [plit, pP_97_2, pbs, pP_97_3 (Or.inl rfl)]
  rfl
set_option maxRecDepth 8192 in
theorem tx_ch : ∀ c, c < 128 → ((nI c).toUInt32 % 65536).toInt32 = nI c ∧ (nI c).toInt8.toInt32 = nI c := by decide +kernel
set_option maxRecDepth 8192 in
theorem tx_by (k : Nat) (hk : 1 ≤ k ∧ k ≤ 3) {i : Nat} (hi : i < (sL k).length) : hb_ssb (k + 10) (nI i) = some (nI ((sL k).getD i 0)) := by
  have key : ∀ k, k < 4 → 1 ≤ k → ∀ i, i < (sL k).length → hb_ssb (k + 10) (nI i) = some (nI ((sL k).getD i 0)) := by decide +kernel
  exact key k (by omega) hk.1 i hi
set_option maxRecDepth 8192 in
theorem tx_ln (k : Nat) (hk : 1 ≤ k ∧ k ≤ 3) : hb_ssl (k + 10) = some (nI (sL k).length) ∧ 1 ≤ (sL k).length ∧ (sL k).length ≤ 8 ∧ ∀ i, i < (sL k).length → (sL k).getD i 0 < 128 := by
  have key : ∀ k, k < 4 → 1 ≤ k → hb_ssl (k + 10) = some (nI (sL k).length) ∧ 1 ≤ (sL k).length ∧ (sL k).length ≤ 8 ∧ ∀ i, i < (sL k).length → (sL k).getD i 0 < 128 := by decide +kernel
  exact key k (by omega) hk.1
set_option maxRecDepth 8192 in
theorem tx_ix {k c : Nat} {σ : hb_M} (hk : 1 ≤ k ∧ k ≤ 3) (hc : c < 128) : ∃ x, f_J0_indexOf_0f7a4 k (nI c) σ = some (x, σ) ∧ ((0 : Int32) ≤ x) = ((sL k).contains c = true) := by
  obtain ⟨l1, l2, l3, l4⟩ := tx_ln k hk
  have hv : hb_ssv k = some (k + 10) := by unfold hb_ssv; rw [if_pos hk]
  have hs : hb_ssc k = some 0 := by unfold hb_ssc; rw [if_pos hk]
  have hson : ∀ {α : Type} (x : Option α), hb_son k x = x := fun x => by unfold hb_son; rw [if_pos hk]
  have hlat : f_J0_isLatin1_aae02 k σ = some (nI 1, σ) := by
    unfold f_J0_isLatin1_aae02
    rw [if_neg (by decide), hs, pbs, if_pos rfl]
    rfl
  have hcod : f_J0_coder_7d493 k σ = some (nI 0, σ) := by
    unfold f_J0_coder_7d493
    rw [if_neg (by decide), hs, pbs, if_pos rfl]
    rfl
  have hlen : f_J0_length_8abf5 k σ = some (nI (sL k).length, σ) := by
    unfold f_J0_length_8abf5
    rw [hv, pbs, l1, pbs, hson, hcod, pbs]
    have key : ∀ n, n < 9 → nI n >>> (nI 0 &&& 31) = nI n := by decide +kernel
    show some (nI (sL k).length >>> (nI 0 &&& 31), σ) = _
    rw [key _ (by omega)]
  have hloop := pm_for (fun F (_ : Unit) i => f_J1_indexOfChar_4cfef_b7 F (k + 10) (nI (sL k).length) (nI c) (nI i) σ) (fun i _ => ∀ j, j < i → (sL k).getD j 0 ≠ c) (fun s => s.2 = σ ∧ ((0 : Int32) ≤ s.1) = ((sL k).contains c = true)) (sL k).length ?_ ?_ hb_FU 0 () (by omega) (by unfold hb_FU; omega) (fun j hj => by omega)
  · obtain ⟨⟨x, σ'⟩, s1, s2, s3⟩ := hloop
    simp only at s2 s3
    subst s2
    refine ⟨x, ?_, s3⟩
    unfold f_J0_indexOf_0f7a4
    rw [hson]
    unfold f_J0_indexOf_7cf53
    rw [hson, hlat, pbs]
    simp only []
    rw [if_neg (show ¬ nI 1 = 0 from by decide), hv, pbs, hson, hlen, pbs]
    unfold f_J1_indexOf_4cfef f_J1_canEncode_9a6ad f_J1_indexOfChar_4cfef
    have hc2 : (nI c < nI 0) = False := pn_lt0 (by omega)
    have hz : ((0 : Nat) < (sL k).length) = True := eq_true l2
    have hf : (255 < c) = False := eq_false (by omega)
    have h01 : ((1 : Nat) = 0) = False := by decide
    simp (disch := omega) only [plit, hc2, if_false, pn_lt, hf, pbs, pn_eq, h01, l1, Nat.lt_irrefl, hz, if_true, (tx_ch c hc).2, s1, ite_self]
  · intro F _ i hi hP
    simp (disch := omega) only [f_J1_indexOfChar_4cfef_b7, pn_le, tx_by k hk hi, pbs, plit, nI_add]
    rw [if_neg (show ¬ (sL k).length ≤ i from by omega)]
    have h128 := l4 i hi
    by_cases e : (sL k).getD i 0 = c
    · left
      rw [e, if_pos rfl]
      refine hw_some.mpr ⟨rfl, ?_⟩
      have h0 : ((0 : Int32) ≤ nI i) = True := eq_true (by
        rw [show (0 : Int32) = nI 0 from rfl, pn_le (by omega) (by omega)]
        omega)
      refine (show ((0 : Int32) ≤ nI i) = _ from ?_)
      rw [h0]
      refine propext ⟨fun _ => ?_, fun _ => trivial⟩
      rw [List.contains_iff_mem, ← e, show (sL k).getD i 0 = (sL k)[i] from by simp [List.getD, hi]]
      exact List.getElem_mem hi
    · right
      refine ⟨(), ?_, fun j hj => ?_⟩
      · exact if_neg (by rw [pn_eq (by omega) (by omega)]; exact e)
      · by_cases e2 : j = i
        · rw [e2]; exact e
        · exact hP j (by omega)
  · intro F _ hP
    simp (disch := omega) only [f_J1_indexOfChar_4cfef_b7, pn_le, Nat.le_refl, if_true]
    refine hw_some.mpr ⟨rfl, ?_⟩
    have h0 : ((0 : Int32) ≤ -1) = False := by decide
    show ((0 : Int32) ≤ -1) = _
    rw [h0]
    refine propext ⟨fun h => h.elim, fun h => ?_⟩
    rw [List.contains_iff_mem] at h
    obtain ⟨j, hj, e⟩ := List.getElem_of_mem h
    exact hP j hj (by simp [List.getD, hj, e])
set_option maxRecDepth 8192 in
theorem x7_oneOf (h : cT I t T) (ht : t ≤ 100) (hT : ∀ j, j < t → T j < 128) {p k0 : Nat} {f : Bool} (hp : p < 1000) (hk : 1 ≤ k0 ∧ k0 ≤ 3) : f_X7_oneOf 97 k0 (pm (pt I p f) L r) = some (mI (if to t T p f k0 then tn t T p f else 0), pm (pt I (if to t T p f k0 then p + 1 else p) (f || !to t T p f k0)) L r) := by
  have h1 := tn_lt (t := t) hT p f
  have hson : ∀ {α : Type} (x : Option α), hb_son k0 x = x := fun x => by unfold hb_son; rw [if_pos hk]
  have hfl : f_X7_oneOf_b19 97 (pm (pt I p f) L r) = some (mI 0, pm (pt I p true) L r) := by
    unfold f_X7_oneOf_b19
    simp only [pO_97, x7_fail, pbs, plit, mI_0]
  unfold f_X7_oneOf
  simp (disch := omega) only [pO_97, x7_next h ht hp, pbs, plit, mI_none]
  unfold to
  cases e : tn t T p f with
  | zero =>
    simp only [if_true, ne_eq, not_true, decide_false, Bool.false_and, Bool.false_eq_true, if_false, Bool.not_false, Bool.or_true, hfl]
  | succ c =>
    have hf : f = false := by
      cases f
      · rfl
      · simp [tn] at e
    have hc : c < 128 := by omega
    obtain ⟨x, x1, x2⟩ := tx_ix (σ := pm (pt I p f) L r) hk hc
    have e0 : ¬ c + 1 = 0 := by omega
    simp only [e0, if_false, mI_s, (tx_ch c hc).1, hson, x1, pbs, x2, ne_eq, not_false_eq_true, decide_true, Bool.true_and, Nat.add_sub_cancel]
    rw [show (0 : Int32) = nI 0 from rfl] at x2
    simp only [x2]
    cases e3 : (sL k0).contains c
    · simp only [Bool.false_eq_true, if_false, hfl, Bool.not_false, Bool.or_true]
    · simp only [if_true, pI_97_2, pbs, pt_v2, nI_add, pP_97_2, pt_2, mI_s, Bool.not_true, Bool.or_false]
set_option maxRecDepth 8192 in
theorem x7_number_b62 {p v i : Nat} (hi : i < 1000) : f_X7_number_b62 97 (nI v) (nI i) (pm (pt I p false) L r) = some (nI v, pm (pt I p (decide (i = 0))) L r) := by
  unfold f_X7_number_b62
  simp (disch := omega) only [plit, pn_eq, pO_97, x7_fail, pbs]
  by_cases e : i = 0
  · rw [if_pos e, decide_eq_true e]
  · rw [if_neg e, decide_eq_false e]
set_option maxRecDepth 8192 in
theorem x7_digits (h : cT I t T) (ht : t ≤ 100) (hT : ∀ j, j < t → T j < 128) {m : Nat} (hm : m ≤ 4) : ∀ d i v q F, i + d = m → v < 10 ^ i → d < F → q < 500 + i → f_X7_number_b10 F 97 (nI m) (nI v) (nI i) (mI (tl t T q)) (pm (pt I q false) L r) = some (nI (tv t T d q v), pm (pt I (q + tc t T d q) (decide (i + tc t T d q = 0))) L r) := by
  intro d
  induction d with
  | zero =>
    intro i v q F h1 h2 h3 h4
    obtain ⟨F, rfl⟩ : ∃ G, F = G + 1 := ⟨F - 1, by omega⟩
    simp (disch := omega) only [f_X7_number_b10, pn_le]
    rw [if_pos (by omega), x7_number_b62 (by omega)]
    rfl
  | succ d ih =>
    intro i v q F h1 h2 h3 h4
    obtain ⟨F, rfl⟩ : ∃ G, F = G + 1 := ⟨F - 1, by omega⟩
    have hle := tl_lt (t := t) hT q
    have hstop : td t T q = false → f_X7_number_b10 (F + 1) 97 (nI m) (nI v) (nI i) (mI (tl t T q)) (pm (pt I q false) L r) = some (nI v, pm (pt I q (decide (i = 0))) L r) := by
      intro e
      simp (disch := omega) only [f_X7_number_b10, pn_le]
      rw [if_neg (by omega)]
      cases e2 : tl t T q with
      | zero =>
        rw [if_pos (by decide), x7_number_b62 (by omega)]
      | succ c =>
        rw [mI_s]
        simp (disch := omega) only [plit, pn_lt]
        unfold td at e
        rw [e2] at e
        by_cases e3 : c < 48
        · rw [if_pos e3, x7_number_b62 (by omega)]
        · rw [if_neg e3]
          have e4 : 57 < c := by
            have := of_decide_eq_false e
            omega
          rw [if_pos e4, x7_number_b62 (by omega)]
    unfold tv tc
    cases e : td t T q
    · rw [hstop e]
      simp
    · have e1 := e
      unfold td at e1
      have e2 := of_decide_eq_true e1
      have hq : q < t := by
        unfold tl at e2
        split at e2
        · assumption
        · omega
      have htl : tl t T q = T q + 1 := by unfold tl; rw [if_pos hq]
      rw [htl] at e2 ⊢
      have hnx : tn t T (q + 1) false = tl t T (q + 1) := rfl
      have h10 : 10 ^ i ≤ 10 ^ 4 := Nat.pow_le_pow_right (by decide) (by omega)
      have hval : nI (v * 10 + T q) - nI 48 = nI (v * 10 + (T q - 48)) := by
        rw [nI_dif0 (by omega)]
        congr 1
        omega
      have hT1 := hT q hq
      simp (disch := omega) only [f_X7_number_b10, pn_le, mI_s, plit, pn_lt]
      rw [if_neg (by omega), if_neg (by omega), if_neg (by omega)]
      simp (disch := omega) only [pI_97_2, pbs, pt_v2, nI_add, pP_97_2, pt_2, pO_97, x7_next h ht (show q + 1 < 1000 from by omega), pk_mul, hnx, hval]
      rw [ih (i + 1) (v * 10 + (T q - 48)) (q + 1) F (by omega) (by rw [Nat.pow_succ]; omega) (by omega) (by omega)]
      simp only [if_true]
      rw [show q + 1 + tc t T d (q + 1) = q + (tc t T d (q + 1) + 1) from by omega, show i + 1 + tc t T d (q + 1) = i + (tc t T d (q + 1) + 1) from by omega]
set_option maxRecDepth 8192 in
theorem x7_number (h : cT I t T) (ht : t ≤ 100) (hT : ∀ j, j < t → T j < 128) {m p : Nat} (hm : m ≤ 4) (hp : p < 500) : f_X7_number 97 (nI m) (pm (pt I p false) L r) = some (nI (tv t T m p 0), pm (pt I (p + tc t T m p) (decide (tc t T m p = 0))) L r) := by
  unfold f_X7_number
  simp (disch := omega) only [pO_97, x7_next h ht (show p < 1000 from by omega), pbs, plit]
  rw [show tn t T p false = tl t T p from rfl, x7_digits h ht hT hm m 0 0 p hb_FU (by omega) (by decide) (by unfold hb_FU; omega) (by omega), Nat.zero_add]
set_option maxRecDepth 8192 in
theorem x7_number_f (h : cT I t T) (ht : t ≤ 100) {m p : Nat} (hm : m ≤ 4) (hm0 : 0 < m) (hp : p < 500) : f_X7_number 97 (nI m) (pm (pt I p true) L r) = some (nI 0, pm (pt I p true) L r) := by
  unfold f_X7_number
  simp (disch := omega) only [pO_97, x7_next h ht (show p < 1000 from by omega), pbs, plit]
  obtain ⟨F, hF⟩ : ∃ F, hb_FU = F + 1 := ⟨4095, by decide⟩
  rw [hF]
  simp (disch := omega) only [f_X7_number_b10, pn_le]
  rw [if_neg (by omega), if_pos (show mI (tn t T p true) < 48 from show mI 0 < 48 from by decide)]
  unfold f_X7_number_b62
  rw [if_pos (show nI 0 = 0 from rfl)]
  simp only [pO_97, x7_fail, pbs]
set_option maxRecDepth 8192 in
theorem tv_lt (hT : ∀ j, j < t → T j < 128) : ∀ m p v, tv t T m p v < (v + 1) * 10 ^ m := by
  intro m
  induction m with
  | zero => intro p v; simp [tv]
  | succ m ih =>
    intro p v
    unfold tv
    cases e : td t T p
    · have h1 : 1 ≤ 10 ^ (m + 1) := Nat.pow_pos (by decide)
      have := Nat.mul_le_mul_left (v + 1) h1
      simp only [Bool.false_eq_true, if_false]
      omega
    · have e2 := of_decide_eq_true e
      have hq : p < t := by
        unfold tl at e2
        split at e2
        · assumption
        · omega
      have htl : tl t T p = T p + 1 := by unfold tl; rw [if_pos hq]
      rw [htl] at e2
      rw [if_pos rfl]
      refine Nat.lt_of_lt_of_le (ih (p + 1) _) ?_
      rw [Nat.pow_succ, Nat.mul_comm (10 ^ m) 10, ← Nat.mul_assoc]
      exact Nat.mul_le_mul_right _ (by omega)
end TEXT
