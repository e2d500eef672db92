/-! a search, breadth first, as plain numbers. A state: how many stand in the order, the order, each one's steps and one more (0: not found), from which it was entered. Object 40 stands ahead of all: it refers to the starts -/
abbrev bs_T : Type := Nat × (Nat → Nat) × (Nat → Nat) × (Nat → Nat)
def bs_up (f : Nat → Nat) (i v : Nat) : Nat → Nat := fun j => if j = i then v else f j
set_option maxRecDepth 8192 in
theorem bs_up_eq {f : Nat → Nat} {i v : Nat} : bs_up f i v i = v := by simp [bs_up]
set_option maxRecDepth 8192 in
theorem bs_up_ne {f : Nat → Nat} {i v j : Nat} (h : j ≠ i) : bs_up f i v j = f j := by simp [bs_up, h]
def bs_step (E : Nat → Nat → Bool) (k i : Nat) (G : bs_T) : bs_T := if E (G.2.1 k) i = true ∧ G.2.2.1 i = 0 then (G.1 + 1, bs_up G.2.1 G.1 i, bs_up G.2.2.1 i (G.2.2.1 (G.2.1 k) + 1), bs_up G.2.2.2 i (G.2.1 k)) else G
def bs_place (E : Nat → Nat → Bool) (k : Nat) (G : bs_T) : bs_T := pm_fold (bs_step E k) 40 G
def bs_G0 : bs_T := (1, fun _ => 40, fun _ => 0, fun _ => 0)
def bs_run (E : Nat → Nat → Bool) : Nat → bs_T
  | 0 => bs_G0
  | k + 1 => if k < (bs_run E k).1 then bs_place E k (bs_run E k) else bs_run E k
/-- places below k are done, and of place k the numbers below i -/
def bs_inv (E : Nat → Nat → Bool) (k i : Nat) (G : bs_T) : Prop :=
  (G.2.1 0 = 40 ∧ G.2.2.1 40 = 0 ∧ k < G.1 ∧ G.1 = 1 + fb_ct (fun o => decide (G.2.2.1 o ≠ 0)) 40)
  ∧ (∀ j, 1 ≤ j → j < G.1 → G.2.1 j < 40 ∧ G.2.2.1 (G.2.1 j) ≠ 0 ∧ ∀ a, a < j → G.2.1 a ≠ G.2.1 j)
  ∧ (∀ o, o < 40 → G.2.2.1 o ≠ 0 → ∃ j, 1 ≤ j ∧ j < G.1 ∧ G.2.1 j = o)
  ∧ (∀ j t, j < k → t < 40 → E (G.2.1 j) t = true → G.2.2.1 t ≠ 0)
  ∧ (∀ t, t < i → t < 40 → E (G.2.1 k) t = true → G.2.2.1 t ≠ 0)
  ∧ (∀ j, 1 ≤ j → j < G.1 → ∃ m, m < j ∧ m ≤ k ∧ G.2.2.2 (G.2.1 j) = G.2.1 m ∧ E (G.2.1 m) (G.2.1 j) = true ∧ G.2.2.1 (G.2.1 j) = G.2.2.1 (G.2.1 m) + 1 ∧ (∀ n t, n < m → t < 40 → E (G.2.1 n) t = true → ∃ l, 1 ≤ l ∧ l < j ∧ G.2.1 l = t) ∧ (∀ t, t < G.2.1 j → E (G.2.1 m) t = true → ∃ l, 1 ≤ l ∧ l < j ∧ G.2.1 l = t))
  ∧ (∀ a b, a ≤ b → b < G.1 → G.2.2.1 (G.2.1 a) ≤ G.2.2.1 (G.2.1 b))
  ∧ (∀ a, a < G.1 → G.2.2.1 (G.2.1 a) ≤ G.2.2.1 (G.2.1 k) + 1)
section BFS
variable {E : Nat → Nat → Bool}
set_option maxRecDepth 8192 in
theorem bs_inv0 : bs_inv E 0 0 bs_G0 := by
  refine ⟨⟨rfl, rfl, by decide, ?_⟩, ?_, ?_, ?_, ?_, ?_, ?_, ?_⟩
  · have : fb_ct (fun o => decide (bs_G0.2.2.1 o ≠ 0)) 40 = 0 := fb_ct_zero.mpr (fun k _ => by simp [bs_G0])
    rw [this]; rfl
  · intro j h1 h2
    simp [bs_G0] at h2
    omega
  · intro o _ h
    exact absurd rfl h
  · intro j t h
    omega
  · intro t h
    omega
  · intro j h1 h2
    simp [bs_G0] at h2
    omega
  · intro a b _ _
    exact Nat.le_refl _
  · intro a _
    exact Nat.zero_le _
set_option maxRecDepth 8192 in
theorem bs_inv_step {k i : Nat} {G : bs_T} (h : bs_inv E k i G) (hi : i < 40) : bs_inv E k (i + 1) (bs_step E k i G) := by
  obtain ⟨⟨h0, h40, hk, hc⟩, h1, h2, h3, h4, h5, h6, h7⟩ := h
  unfold bs_step
  by_cases e : E (G.2.1 k) i = true ∧ G.2.2.1 i = 0
  · rw [if_pos e]
    obtain ⟨e1, e2⟩ := e
    have hod : ∀ j, j < G.1 → bs_up G.2.1 G.1 i j = G.2.1 j := fun j hj => bs_up_ne (by omega)
    have hne : ∀ j, j < G.1 → G.2.1 j ≠ i := fun j hj e9 => by
      rcases Nat.eq_zero_or_pos j with e3 | e3
      · rw [e3, h0] at e9
        omega
      · have := (h1 j e3 hj).2.1
        rw [e9] at this
        exact this e2
    have hsd : ∀ j, j < G.1 → bs_up G.2.2.1 i (G.2.2.1 (G.2.1 k) + 1) (G.2.1 j) = G.2.2.1 (G.2.1 j) := fun j hj => bs_up_ne (hne j hj)
    have hfr : ∀ j, j < G.1 → bs_up G.2.2.2 i (G.2.1 k) (G.2.1 j) = G.2.2.2 (G.2.1 j) := fun j hj => bs_up_ne (hne j hj)
    refine ⟨⟨?_, ?_, ?_, ?_⟩, ?_, ?_, ?_, ?_, ?_, ?_, ?_⟩
    · show bs_up G.2.1 G.1 i 0 = 40
      rw [hod 0 (by omega)]
      exact h0
    · show bs_up G.2.2.1 i _ 40 = 0
      rw [bs_up_ne (by omega)]
      exact h40
    · show k < G.1 + 1
      omega
    · show G.1 + 1 = 1 + fb_ct (fun o => decide (bs_up G.2.2.1 i (G.2.2.1 (G.2.1 k) + 1) o ≠ 0)) 40
      have hq := fb_ct_upd (fun o => decide (G.2.2.1 o ≠ 0)) true (i := i) (n := 40) hi
      have hz : decide (G.2.2.1 i ≠ 0) = false := by simp [e2]
      simp only [hz, Bool.false_eq_true, if_false, if_true, Nat.add_zero] at hq
      rw [fb_ct_cong (q := fun k => if k = i then true else decide (G.2.2.1 k ≠ 0)) (fun o _ => by
        by_cases e3 : o = i
        · rw [e3, bs_up_eq]; simp
        · rw [bs_up_ne e3]; simp [e3]), hq, hc]
      omega
    · intro j hj1 hj2
      show bs_up G.2.1 G.1 i j < 40 ∧ bs_up G.2.2.1 i (G.2.2.1 (G.2.1 k) + 1) (bs_up G.2.1 G.1 i j) ≠ 0 ∧ ∀ a, a < j → bs_up G.2.1 G.1 i a ≠ bs_up G.2.1 G.1 i j
      have hj2 : j < G.1 + 1 := hj2
      by_cases e3 : j = G.1
      · subst e3
        rw [bs_up_eq, bs_up_eq]
        exact ⟨hi, by omega, fun a ha => by rw [hod a ha]; exact hne a ha⟩
      · rw [hod j (by omega), hsd j (by omega)]
        obtain ⟨q1, q2, q3⟩ := h1 j hj1 (by omega)
        exact ⟨q1, q2, fun a ha => by rw [hod a (by omega)]; exact q3 a ha⟩
    · intro o ho hs
      show ∃ j, 1 ≤ j ∧ j < G.1 + 1 ∧ bs_up G.2.1 G.1 i j = o
      have hs : bs_up G.2.2.1 i (G.2.2.1 (G.2.1 k) + 1) o ≠ 0 := hs
      by_cases e3 : o = i
      · exact ⟨G.1, by omega, by omega, by rw [bs_up_eq, e3]⟩
      · rw [bs_up_ne e3] at hs
        obtain ⟨j, a, b, c⟩ := h2 o ho hs
        exact ⟨j, a, by omega, by rw [hod j b]; exact c⟩
    · intro j t hj ht he
      show bs_up G.2.2.1 i (G.2.2.1 (G.2.1 k) + 1) t ≠ 0
      have he : E (bs_up G.2.1 G.1 i j) t = true := he
      rw [hod j (by omega)] at he
      by_cases e3 : t = i
      · rw [e3, bs_up_eq]; omega
      · rw [bs_up_ne e3]
        exact h3 j t hj ht he
    · intro t ht ht2 he
      show bs_up G.2.2.1 i (G.2.2.1 (G.2.1 k) + 1) t ≠ 0
      have he : E (bs_up G.2.1 G.1 i k) t = true := he
      rw [hod k hk] at he
      by_cases e3 : t = i
      · rw [e3, bs_up_eq]; omega
      · rw [bs_up_ne e3]
        exact h4 t (by omega) ht2 he
    · intro j hj1 hj2
      have hj2 : j < G.1 + 1 := hj2
      show ∃ m, m < j ∧ m ≤ k ∧ bs_up G.2.2.2 i (G.2.1 k) (bs_up G.2.1 G.1 i j) = bs_up G.2.1 G.1 i m ∧ E (bs_up G.2.1 G.1 i m) (bs_up G.2.1 G.1 i j) = true ∧ bs_up G.2.2.1 i (G.2.2.1 (G.2.1 k) + 1) (bs_up G.2.1 G.1 i j) = bs_up G.2.2.1 i (G.2.2.1 (G.2.1 k) + 1) (bs_up G.2.1 G.1 i m) + 1 ∧ (∀ n t, n < m → t < 40 → E (bs_up G.2.1 G.1 i n) t = true → ∃ l, 1 ≤ l ∧ l < j ∧ bs_up G.2.1 G.1 i l = t) ∧ (∀ t, t < bs_up G.2.1 G.1 i j → E (bs_up G.2.1 G.1 i m) t = true → ∃ l, 1 ≤ l ∧ l < j ∧ bs_up G.2.1 G.1 i l = t)
      by_cases e3 : j = G.1
      · subst e3
        refine ⟨k, hk, Nat.le_refl k, ?_, ?_, ?_, ?_, ?_⟩
        · rw [bs_up_eq, bs_up_eq, hod k hk]
        · rw [bs_up_eq, hod k hk]
          exact e1
        · rw [bs_up_eq, bs_up_eq, hod k hk, hsd k hk]
        · intro n t hn ht he
          rw [hod n (by omega)] at he
          obtain ⟨l, a, b, c⟩ := h2 t ht (h3 n t hn ht he)
          exact ⟨l, a, b, by rw [hod l b]; exact c⟩
        · intro t ht he
          rw [bs_up_eq] at ht
          rw [hod k hk] at he
          obtain ⟨l, a, b, c⟩ := h2 t (by omega) (h4 t ht (by omega) he)
          exact ⟨l, a, b, by rw [hod l b]; exact c⟩
      · obtain ⟨m, a1, a2, a3, a4, a5, a6, a7⟩ := h5 j hj1 (by omega)
        refine ⟨m, a1, a2, ?_, ?_, ?_, ?_, ?_⟩
        · rw [hod j (by omega), hod m (by omega), hfr j (by omega)]
          exact a3
        · rw [hod j (by omega), hod m (by omega)]
          exact a4
        · rw [hod j (by omega), hod m (by omega), hsd j (by omega), hsd m (by omega)]
          exact a5
        · intro n t hn ht he
          rw [hod n (by omega)] at he
          obtain ⟨l, a, b, c⟩ := a6 n t hn ht he
          exact ⟨l, a, b, by rw [hod l (by omega)]; exact c⟩
        · intro t ht he
          rw [hod j (by omega)] at ht
          rw [hod m (by omega)] at he
          obtain ⟨l, a, b, c⟩ := a7 t ht he
          exact ⟨l, a, b, by rw [hod l (by omega)]; exact c⟩
    · intro a b hab hb
      have hb : b < G.1 + 1 := hb
      show bs_up G.2.2.1 i (G.2.2.1 (G.2.1 k) + 1) (bs_up G.2.1 G.1 i a) ≤ bs_up G.2.2.1 i (G.2.2.1 (G.2.1 k) + 1) (bs_up G.2.1 G.1 i b)
      by_cases e3 : b = G.1
      · rw [e3, bs_up_eq, bs_up_eq]
        by_cases e4 : a = G.1
        · rw [e4, bs_up_eq, bs_up_eq]
          exact Nat.le_refl _
        · rw [hod a (by omega), hsd a (by omega)]
          exact h7 a (by omega)
      · rw [hod a (by omega), hod b (by omega), hsd a (by omega), hsd b (by omega)]
        exact h6 a b hab (by omega)
    · intro a ha
      have ha : a < G.1 + 1 := ha
      show bs_up G.2.2.1 i (G.2.2.1 (G.2.1 k) + 1) (bs_up G.2.1 G.1 i a) ≤ bs_up G.2.2.1 i (G.2.2.1 (G.2.1 k) + 1) (bs_up G.2.1 G.1 i k) + 1
      rw [hod k hk, hsd k hk]
      by_cases e4 : a = G.1
      · rw [e4, bs_up_eq, bs_up_eq]
        exact Nat.le_refl _
      · rw [hod a (by omega), hsd a (by omega)]
        exact h7 a (by omega)
  · rw [if_neg e]
    refine ⟨⟨h0, h40, hk, hc⟩, h1, h2, h3, ?_, h5, h6, h7⟩
    intro t ht ht2 he
    by_cases e3 : t = i
    · intro e4
      rw [e3] at he e4
      exact e ⟨he, e4⟩
    · exact h4 t (by omega) ht2 he
set_option maxRecDepth 8192 in
theorem bs_inv_place {k : Nat} {G : bs_T} (h : bs_inv E k 0 G) : bs_inv E k 40 (bs_place E k G) := pm_fold_inv (bs_step E k) (fun i G => bs_inv E k i G) 40 G h (fun _ _ hi hb => bs_inv_step hb hi)
set_option maxRecDepth 8192 in
theorem bs_inv_next {k : Nat} {G : bs_T} (h : bs_inv E k 40 G) (hk : k + 1 < G.1) : bs_inv E (k + 1) 0 G := by
  obtain ⟨⟨h0, h40, hk0, hc⟩, h1, h2, h3, h4, h5, h6, h7⟩ := h
  refine ⟨⟨h0, h40, hk, hc⟩, h1, h2, ?_, fun t ht => by omega, ?_, h6, ?_⟩
  · intro j t hj ht he
    by_cases e : j = k
    · rw [e] at he
      exact h4 t ht ht he
    · exact h3 j t (by omega) ht he
  · intro j a b
    obtain ⟨m, a1, a2, a3⟩ := h5 j a b
    exact ⟨m, a1, by omega, a3⟩
  · intro a ha
    have := h7 a ha
    have := h6 k (k + 1) (by omega) hk
    omega
set_option maxRecDepth 8192 in
theorem bs_c41 {k i : Nat} {G : bs_T} (h : bs_inv E k i G) : G.1 ≤ 41 := by
  have := h.1.2.2.2
  have := fb_ct_le (fun o => decide (G.2.2.1 o ≠ 0)) 40
  omega
/-- all places are done -/
def bs_fin (E : Nat → Nat → Bool) (G : bs_T) : Prop := ∃ k, k + 1 = G.1 ∧ bs_inv E k 40 G
set_option maxRecDepth 8192 in
theorem bs_end : ∀ k, (∃ j, j < k ∧ j + 1 = (bs_run E k).1 ∧ bs_inv E j 40 (bs_run E k)) ∨ bs_inv E k 0 (bs_run E k)
  | 0 => Or.inr bs_inv0
  | k + 1 => by
    rcases bs_end k with ⟨j, hj, h1, h2⟩ | h
    · left
      have : ¬ k < (bs_run E k).1 := by omega
      rw [bs_run, if_neg this]
      exact ⟨j, by omega, h1, h2⟩
    · have hk := h.1.2.2.1
      rw [bs_run, if_pos hk]
      have hp := bs_inv_place h
      rcases Nat.lt_or_ge (k + 1) (bs_place E k (bs_run E k)).1 with e | e
      · exact Or.inr (bs_inv_next hp e)
      · left
        have := hp.1.2.2.1
        exact ⟨k, by omega, by omega, hp⟩
set_option maxRecDepth 8192 in
theorem bs_done : bs_fin E (bs_run E 42) := by
  rcases bs_end (E := E) 42 with ⟨j, hj, h1, h2⟩ | h
  · exact ⟨j, h1, h2⟩
  · have h1 := bs_c41 h
    have h2 := h.1.2.2.1
    omega
end BFS
