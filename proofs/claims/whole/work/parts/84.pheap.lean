/-! the heap as plain numbers. A o k for an object o < 40: k = 0 its serial number (0: there is none), 1 group, 2 slots, 3 age, 4 roots, 5 + s what slot s contains, one more (0: nothing); A 40 0 how many classes, A 40 1 the next serial number; A 41 c the superclass, one more (0: none), A 42 c own fields, A 43 c own data -/
def pa_s (A : Nat → Nat → Nat) (q : Nat) : Nat → Nat → Nat
  | 0, _ => 0
  | _ + 1, 0 => 0
  | n + 1, k + 1 => A q k + pa_s A q n (A 41 k)
def pa_fo (A : Nat → Nat → Nat) (c : Nat) : Nat := pa_s A 42 11 (c + 1)
def pa_da (A : Nat → Nat → Nat) (c : Nat) : Nat := pa_s A 43 11 (c + 1)
def pa_ru (n : Nat) : Nat := (n + 7) / 8 * 8
def pa_sc (A : Nat → Nat → Nat) (c : Nat) : Nat := pa_ru (12 + 4 * pa_fo A c + pa_da A c)
def pa_so (A : Nat → Nat → Nat) (o : Nat) : Nat := if A o 1 = 11 then 24 else if A o 1 = 10 then pa_ru (16 + 4 * A o 2) else pa_sc A (A o 1)
def pa_al (A : Nat → Nat → Nat) (o : Nat) : Bool := decide (A o 0 ≠ 0)
def pa_bl (A : Nat → Nat → Nat) : Nat → Nat → Nat → Bool
  | 0, _, _ => false
  | _ + 1, 0, _ => false
  | n + 1, k + 1, t => decide (k = t) || pa_bl A n (A 41 k) t
def pa_ok (A : Nat → Nat → Nat) (o : Nat) : Prop := (A o 1 < A 40 0 ∧ A o 2 = pa_fo A (A o 1) ∨ A o 1 = 10 ∧ A o 2 ≤ 8 ∨ A o 1 = 11 ∧ A o 2 = 1) ∧ A o 3 ≤ 99 ∧ A o 4 ≤ 7 ∧ ∀ s, s < 8 → (A o 2 ≤ s → A o (5 + s) = 0) ∧ A o (5 + s) ≤ 40 ∧ (A o (5 + s) ≠ 0 → A (A o (5 + s) - 1) 0 ≠ 0)
def pa_wf (A : Nat → Nat → Nat) : Prop := (1 ≤ A 40 0 ∧ A 40 0 ≤ 10 ∧ 1 ≤ A 40 1 ∧ A 40 1 < 2 ^ 30) ∧ (∀ c, c < A 40 0 → A 41 c ≤ c ∧ (0 < c → 1 ≤ A 41 c) ∧ A 42 c ≤ 3 ∧ A 43 c ≤ 40 ∧ pa_fo A c ≤ 5) ∧ (∀ o, o < 40 → A o 0 < A 40 1) ∧ (∀ o, o < 40 → A o 0 ≠ 0 → pa_ok A o) ∧ (∀ o p, o < 40 → p < 40 → A o 0 ≠ 0 → A o 0 = A p 0 → o = p)
/-- a row of the reference holds a heap -/
def pr_row (N : Nat → Int32) (A : Nat → Nat → Nat) : Prop := N 0 = nI (A 40 0) ∧ N 31 = nI (A 40 1) ∧ (∀ c, c < 10 → N (1 + c) = mI (A 41 c) ∧ N (11 + c) = nI (A 42 c) ∧ N (21 + c) = nI (A 43 c)) ∧ ∀ o, o < 40 → (∀ k, k < 5 → N (32 + 13 * o + k) = nI (A o k)) ∧ ∀ s, s < 8 → N (32 + 13 * o + 5 + s) = mI (A o (5 + s))
section PHP
variable {A : Nat → Nat → Nat}
theorem pa_cc1 (w : pa_wf A) : 1 ≤ A 40 0 := w.1.1
theorem pa_cc10 (w : pa_wf A) : A 40 0 ≤ 10 := w.1.2.1
theorem pa_nx (w : pa_wf A) : A 40 1 < 2 ^ 30 := w.1.2.2.2
theorem pa_sup (w : pa_wf A) {c : Nat} (h : c < A 40 0) : A 41 c ≤ c := (w.2.1 c h).1
theorem pa_s_fuel (w : pa_wf A) (q : Nat) : ∀ n m k, k ≤ A 40 0 → k < n → k < m → pa_s A q n k = pa_s A q m k := by
  intro n
  induction n with
  | zero => intro m k _ h; omega
  | succ n ih =>
    intro m k hk hn hm
    obtain ⟨m, rfl⟩ : ∃ j, m = j + 1 := ⟨m - 1, by omega⟩
    cases k with
    | zero => rfl
    | succ c =>
      have := pa_sup w (c := c) (by omega)
      show A q c + pa_s A q n (A 41 c) = A q c + pa_s A q m (A 41 c)
      rw [ih m (A 41 c) (by omega) (by omega) (by omega)]
theorem pa_s_le (w : pa_wf A) {q b : Nat} (hb : ∀ c, c < A 40 0 → A q c ≤ b) : ∀ n k, k ≤ A 40 0 → k < n → pa_s A q n k ≤ b * k := by
  intro n
  induction n with
  | zero => intro k _ h; omega
  | succ n ih =>
    intro k hk hn
    cases k with
    | zero => exact Nat.zero_le _
    | succ c =>
      have h1 := pa_sup w (c := c) (by omega)
      have h2 := hb c (by omega)
      have h3 := ih (A 41 c) (by omega) (by omega)
      show A q c + pa_s A q n (A 41 c) ≤ b * (c + 1)
      have h4 : b * A 41 c ≤ b * c := Nat.mul_le_mul_left _ h1
      rw [Nat.mul_succ]
      omega
theorem pa_fo_le (w : pa_wf A) {c : Nat} (h : c < A 40 0) : pa_fo A c ≤ 5 := (w.2.1 c h).2.2.2.2
theorem pa_da_le (w : pa_wf A) {c : Nat} (h : c < A 40 0) : pa_da A c ≤ 400 := by
  have := pa_s_le w (q := 43) (b := 40) (fun c hc => (w.2.1 c hc).2.2.2.1) 11 (c + 1) (by omega) (by have := pa_cc10 w; omega)
  have h10 := pa_cc10 w
  show pa_s A 43 11 (c + 1) ≤ 400
  omega
theorem pa_sc_le (w : pa_wf A) {c : Nat} (h : c < A 40 0) : pa_sc A c ≤ 440 := by
  have := pa_fo_le w h
  have := pa_da_le w h
  unfold pa_sc pa_ru
  omega
theorem pa_so_le (w : pa_wf A) {o : Nat} (ho : o < 40) (ha : A o 0 ≠ 0) : pa_so A o ≤ 440 := by
  obtain ⟨h, -⟩ := w.2.2.2.1 o ho ha
  unfold pa_so
  split
  · omega
  · split
    · have := pa_cc10 w
      unfold pa_ru
      omega
    · exact pa_sc_le w (by omega)
theorem pa_sl8 (w : pa_wf A) {o : Nat} (ho : o < 40) (ha : A o 0 ≠ 0) : A o 2 ≤ 8 := by
  obtain ⟨h, -⟩ := w.2.2.2.1 o ho ha
  rcases h with ⟨h1, h2⟩ | ⟨h1, h2⟩ | ⟨h1, h2⟩
  · have := pa_fo_le w h1
    omega
  · exact h2
  · omega
theorem pa_gr (w : pa_wf A) {o : Nat} (ho : o < 40) (ha : A o 0 ≠ 0) : A o 1 < 12 := by
  obtain ⟨h, -⟩ := w.2.2.2.1 o ho ha
  have := pa_cc10 w
  omega
theorem pa_s0 (w : pa_wf A) {o : Nat} (ho : o < 40) : A o 0 < 2 ^ 30 := by
  have := w.2.2.1 o ho
  have := pa_nx w
  omega
/-- is x a class, an object, a slot -/
def pa_isC (A : Nat → Nat → Nat) (x : Int32) : Bool := (pn_at (A 40 0) x).isSome
def pa_isO (A : Nat → Nat → Nat) (x : Int32) : Bool := match pn_at 40 x with
  | some o => pa_al A o
  | none => false
def pa_isS (A : Nat → Nat → Nat) (x y : Int32) : Bool := match pn_at 40 x with
  | some o => pa_al A o && (pn_at (A o 2) y).isSome
  | none => false
theorem pa_isC_nI (w : pa_wf A) {c : Nat} (h : c < 2 ^ 31) : pa_isC A (nI c) = decide (c < A 40 0) := by
  unfold pa_isC
  have h10 := pa_cc10 w
  by_cases hc : c < A 40 0
  · rw [pn_at_nI (by omega) hc]; simp [hc]
  · cases e : pn_at (A 40 0) (nI c) with
    | none => simp [hc]
    | some j =>
      obtain ⟨h1, h2⟩ := pn_at_some (by omega) e
      rw [nI_eq h (by omega)] at h2
      omega
theorem pa_isO_nI {o : Nat} (h : o < 40) : pa_isO A (nI o) = pa_al A o := by
  unfold pa_isO
  rw [pn_at_nI (by decide) h]
theorem mI_toInt {n : Nat} (h : n < 2 ^ 31) : (mI n).toInt = (n : Int) - 1 := by
  cases n with
  | zero => decide
  | succ n =>
    rw [mI_s, nI_toInt (by omega)]
    omega
theorem pw_some {n : Nat} {x : Int32} (hn : n < 2 ^ 31) : decide (¬ x < nI 0 ∧ ¬ mI n < x) = (pn_at n x).isSome := by
  have h0 : (x < nI 0) ↔ x.toInt < 0 := fa_lt x (nI 0)
  have h1 : (mI n < x) ↔ (n : Int) - 1 < x.toInt := by rw [fa_lt, mI_toInt hn]
  have h2 : (nI n ≤ x) ↔ (n : Int) ≤ x.toInt := by rw [fa_le, nI_toInt hn]
  unfold pn_at
  by_cases h : x < 0 ∨ nI n ≤ x
  · rw [if_pos h]
    have : ¬ (¬ x < nI 0 ∧ ¬ mI n < x) := by
      rw [h0, h1]
      rw [h2] at h
      have e : (x < 0) ↔ x.toInt < 0 := h0
      rw [e] at h
      omega
    rw [decide_eq_false this]; rfl
  · rw [if_neg h]
    have : ¬ x < nI 0 ∧ ¬ mI n < x := by
      rw [h0, h1]
      rw [h2] at h
      have e : (x < 0) ↔ x.toInt < 0 := h0
      rw [e] at h
      omega
    rw [decide_eq_true this]; rfl
end PHP
