/-! what a finished search has found -/
def bs_E (E : Nat → Nat → Bool) (S : Nat → Bool) (a b : Nat) : Bool := if a = 40 then S b else decide (a < 40) && E a b
def bs_an (G : bs_T) : Nat → Nat → Nat
  | 0, o => o
  | n + 1, o => G.2.2.2 (bs_an G n o)
section BF2
variable {E : Nat → Nat → Bool} {S : Nat → Bool} {G : bs_T}
set_option maxRecDepth 8192 in
theorem bs_E40 {b : Nat} : bs_E E S 40 b = S b := by simp [bs_E]
set_option maxRecDepth 8192 in
theorem bs_Elt {a b : Nat} (h : a < 40) : bs_E E S a b = E a b := by
  have : a ≠ 40 := by omega
  simp [bs_E, this, h]
set_option maxRecDepth 8192 in
theorem bs_W (h : bs_fin (bs_E E S) G) : ∀ j, 1 ≤ j → j < G.1 → pr_W E S (G.2.2.1 (G.2.1 j) - 1) (G.2.1 j) := by
  obtain ⟨k, hk, ⟨h0, h40, -, -⟩, h1, h2, h3, h4, h5, h6, h7⟩ := h
  intro j
  induction j using Nat.strongRecOn with
  | ind j ih =>
    intro hj hj2
    obtain ⟨m, a1, a2, a3, a4, a5, -, -⟩ := h5 j hj hj2
    rcases Nat.eq_zero_or_pos m with e | e
    · rw [e, h0] at a4 a5
      rw [h40] at a5
      rw [a5]
      rw [bs_E40] at a4
      exact a4
    · have hm := h1 m e (by omega)
      have hw := ih m a1 e (by omega)
      rw [bs_Elt hm.1] at a4
      rw [a5, Nat.add_sub_cancel]
      have : G.2.2.1 (G.2.1 m) = (G.2.2.1 (G.2.1 m) - 1) + 1 := by have := hm.2.1; omega
      rw [this]
      exact ⟨G.2.1 m, hw, a4⟩
set_option maxRecDepth 8192 in
theorem bs_all (h : bs_fin (bs_E E S) G) (hS : ∀ s, S s = true → s < 40) (hE : ∀ a b, E a b = true → b < 40) {o : Nat} (hr : pr_R E S o) : o < 40 ∧ G.2.2.1 o ≠ 0 := by
  obtain ⟨k, hk, ⟨h0, h40, -, -⟩, h1, h2, h3, h4, h5, h6, h7⟩ := h
  have hcl : ∀ j t, j < G.1 → t < 40 → bs_E E S (G.2.1 j) t = true → G.2.2.1 t ≠ 0 := by
    intro j t hj ht he
    by_cases e : j = k
    · rw [e] at he
      exact h4 t ht ht he
    · exact h3 j t (by omega) ht he
  refine hr (fun o => o < 40 ∧ G.2.2.1 o ≠ 0) ?_ ?_
  · intro s hs
    exact ⟨hS s hs, hcl 0 s (by omega) (hS s hs) (by rw [h0, bs_E40]; exact hs)⟩
  · rintro a b ⟨ha, hn⟩ he
    obtain ⟨j, q1, q2, q3⟩ := h2 a ha hn
    exact ⟨hE a b he, hcl j b q2 (hE a b he) (by rw [q3, bs_Elt ha]; exact he)⟩
set_option maxRecDepth 8192 in
theorem bs_R (h : bs_fin (bs_E E S) G) {o : Nat} (ho : o < 40) (hs : G.2.2.1 o ≠ 0) : pr_R E S o := by
  have hW := bs_W h
  obtain ⟨k, hk, -, h1, h2, -⟩ := h
  obtain ⟨j, q1, q2, q3⟩ := h2 o ho hs
  rw [← q3]
  exact pr_W_R (hW j q1 q2)
set_option maxRecDepth 8192 in
theorem bs_relax (h : bs_fin (bs_E E S) G) {j t : Nat} (hj : j < G.1) (ht : t < 40) (he : bs_E E S (G.2.1 j) t = true) : G.2.2.1 t ≤ G.2.2.1 (G.2.1 j) + 1 ∧ ∃ l, 1 ≤ l ∧ l < G.1 ∧ G.2.1 l = t := by
  obtain ⟨k, hk, ⟨h0, h40, -, -⟩, h1, h2, h3, h4, h5, h6, h7⟩ := h
  have hf : G.2.2.1 t ≠ 0 := by
    by_cases e : j = k
    · rw [e] at he
      exact h4 t ht ht he
    · exact h3 j t (by omega) ht he
  obtain ⟨l, l1, l2, l3⟩ := h2 t ht hf
  refine ⟨?_, l, l1, l2, l3⟩
  obtain ⟨m, a1, a2, a3, a4, a5, a6, a7⟩ := h5 l l1 l2
  rw [l3] at a5
  rcases Nat.lt_or_ge j m with e | e
  · obtain ⟨l', b1, b2, b3⟩ := a6 j t e ht he
    exact absurd (b3.trans l3.symm) ((h1 l l1 l2).2.2 l' b2)
  · have := h6 m j e hj
    omega
set_option maxRecDepth 8192 in
theorem bs_dist (h : bs_fin (bs_E E S) G) (hS : ∀ s, S s = true → s < 40) (hE : ∀ a b, E a b = true → b < 40) {o : Nat} (ho : o < 40) (hs : G.2.2.1 o ≠ 0) : pr_D E S (G.2.2.1 o - 1) o := by
  have hmin : ∀ d t, pr_W E S d t → t < 40 ∧ G.2.2.1 t ≠ 0 ∧ G.2.2.1 t ≤ d + 1 := by
    intro d
    induction d with
    | zero =>
      intro t hw
      have hw : S t = true := hw
      have ht := hS t hw
      obtain ⟨k, hk, ⟨h0, h40, -, -⟩, -⟩ := id h
      have := bs_relax h (j := 0) (by omega) ht (by rw [h0, bs_E40]; exact hw)
      rw [h0, h40] at this
      exact ⟨ht, (bs_all h hS hE (pr_start hw)).2, this.1⟩
    | succ d ih =>
      rintro t ⟨p, hp, he⟩
      obtain ⟨p1, p2, p3⟩ := ih p hp
      have ht := hE p t he
      obtain ⟨k, hk, -, -, h2, -⟩ := id h
      obtain ⟨j, q1, q2, q3⟩ := h2 p p1 p2
      have := bs_relax h q2 ht (by rw [q3, bs_Elt p1]; exact he)
      rw [q3] at this
      exact ⟨ht, (bs_all h hS hE (pr_step (pr_W_R hp) he)).2, by omega⟩
  have hW := bs_W h
  obtain ⟨k, hk, -, -, h2, -⟩ := h
  obtain ⟨j, q1, q2, q3⟩ := h2 o ho hs
  refine ⟨by rw [← q3]; exact hW j q1 q2, ?_⟩
  intro d hd hw
  have := (hmin d o hw).2.2
  omega
/-! the way back from an object -/
set_option maxRecDepth 8192 in
theorem bs_par (h : bs_fin (bs_E E S) G) {o d : Nat} (ho : o < 40) (hd : G.2.2.1 o = d + 2) : G.2.2.2 o < 40 ∧ G.2.2.1 (G.2.2.2 o) = d + 1 ∧ E (G.2.2.2 o) o = true := by
  obtain ⟨k, hk, ⟨h0, h40, -, -⟩, h1, h2, h3, h4, h5, h6, h7⟩ := h
  obtain ⟨j, q1, q2, q3⟩ := h2 o ho (by omega)
  obtain ⟨m, a1, a2, a3, a4, a5, -, -⟩ := h5 j q1 q2
  rw [q3] at a3 a4 a5
  rcases Nat.eq_zero_or_pos m with e | e
  · rw [e, h0, h40] at a5
    omega
  · have hm := h1 m e (by omega)
    rw [bs_Elt hm.1] at a4
    rw [a3]
    exact ⟨hm.1, by omega, a4⟩
set_option maxRecDepth 8192 in
theorem bs_root (h : bs_fin (bs_E E S) G) {o : Nat} (ho : o < 40) (hd : G.2.2.1 o = 1) : G.2.2.2 o = 40 ∧ S o = true := by
  obtain ⟨k, hk, ⟨h0, h40, -, -⟩, h1, h2, h3, h4, h5, h6, h7⟩ := h
  obtain ⟨j, q1, q2, q3⟩ := h2 o ho (by omega)
  obtain ⟨m, a1, a2, a3, a4, a5, -, -⟩ := h5 j q1 q2
  rw [q3] at a3 a4 a5
  rcases Nat.eq_zero_or_pos m with e | e
  · rw [e, h0] at a3 a4
    rw [bs_E40] at a4
    exact ⟨a3, a4⟩
  · have hm := (h1 m e (by omega)).2.1
    omega
set_option maxRecDepth 8192 in
theorem bs_anl (h : bs_fin (bs_E E S) G) {o d : Nat} (ho : o < 40) (hd : G.2.2.1 o = d + 1) : ∀ n, n ≤ d → bs_an G n o < 40 ∧ G.2.2.1 (bs_an G n o) = d - n + 1
  | 0, _ => ⟨ho, by rw [bs_an]; omega⟩
  | n + 1, hn => by
    obtain ⟨h1, h2⟩ := bs_anl h ho hd n (by omega)
    have := bs_par h h1 (d := d - (n + 1)) (by omega)
    exact ⟨this.1, this.2.1⟩
/-- objects from which o is left in n steps by a shortest way -/
def bs_th (E : Nat → Nat → Bool) (G : bs_T) (o d : Nat) : Nat → Nat → Prop
  | 0, b => b = o
  | n + 1, b => b < 40 ∧ G.2.2.1 b = d - (n + 1) + 1 ∧ ∃ c, E b c = true ∧ bs_th E G o d n c
def bs_before (G : bs_T) (a b : Nat) : Prop := ∃ i j, i < j ∧ j < G.1 ∧ G.2.1 i = a ∧ G.2.1 j = b
set_option maxRecDepth 8192 in
theorem bs_mono (h : bs_fin (bs_E E S) G) {u u' v' : Nat} (hv : v' < 40) (hf : G.2.2.1 v' ≠ 0) (hb : bs_before G u (G.2.2.2 v')) (hu : u' < 40) (he : bs_E E S u u' = true) : bs_before G u' v' := by
  obtain ⟨k, hk, ⟨h0, h40, -, -⟩, h1, h2, h3, h4, h5, h6, h7⟩ := h
  obtain ⟨j, q1, q2, q3⟩ := h2 v' hv hf
  obtain ⟨m, a1, a2, a3, a4, a5, a6, a7⟩ := h5 j q1 q2
  obtain ⟨x, y, hxy, hy, ex, ey⟩ := hb
  rw [q3] at a3
  have hym : y = m := by
    rcases Nat.lt_trichotomy y m with e | e | e
    · rcases Nat.eq_zero_or_pos m with e0 | e0
      · omega
      · exact absurd (ey.trans a3) ((h1 m e0 (by omega)).2.2 y e)
    · exact e
    · exact absurd (a3.symm.trans ey.symm) ((h1 y (by omega) hy).2.2 m e)
  obtain ⟨l, b1, b2, b3⟩ := a6 x u' (by omega) hu (by rw [ex]; exact he)
  exact ⟨l, j, b2, q2, b3, q3⟩
set_option maxRecDepth 8192 in
theorem bs_irr (h : bs_fin (bs_E E S) G) {a : Nat} (hb : bs_before G a a) : False := by
  obtain ⟨k, hk, -, h1, -⟩ := h
  obtain ⟨i, j, hij, hj, e1, e2⟩ := hb
  exact (h1 j (by omega) hj).2.2 i hij (e1.trans e2.symm)
set_option maxRecDepth 8192 in
theorem bs_no (h : bs_fin (bs_E E S) G) (hE : ∀ a b, E a b = true → b < 40) {o d : Nat} (ho : o < 40) (hd : G.2.2.1 o = d + 1) : ∀ n, n ≤ d → ∀ b, bs_th E G o d n b → bs_before G b (bs_an G n o) → False := by
  intro n
  induction n with
  | zero =>
    intro _ b hb hbf
    have hb : b = o := hb
    rw [hb] at hbf
    exact bs_irr h hbf
  | succ n ih =>
    rintro hn b ⟨hb, hs, c, hc, ht⟩ hbf
    obtain ⟨p1, p2⟩ := bs_anl h ho hd n (by omega)
    exact ih (by omega) c ht (bs_mono h p1 (by omega) hbf (hE b c hc) (by rw [bs_Elt hb]; exact hc))
set_option maxRecDepth 8192 in
theorem bs_an_th (h : bs_fin (bs_E E S) G) {o d : Nat} (ho : o < 40) (hd : G.2.2.1 o = d + 1) : ∀ n, n ≤ d → bs_th E G o d n (bs_an G n o)
  | 0, _ => rfl
  | n + 1, hn => by
    obtain ⟨p1, p2⟩ := bs_anl h ho hd n (by omega)
    have := bs_par h p1 (d := d - (n + 1)) (by omega)
    exact ⟨this.1, by rw [show bs_an G (n + 1) o = G.2.2.2 (bs_an G n o) from rfl]; omega, _, this.2.2, bs_an_th h ho hd n (by omega)⟩
/-! the first object of the way, and each next one, are the lowest that will do -/
set_option maxRecDepth 8192 in
theorem bs_low0 (h : bs_fin (bs_E E S) G) (hE : ∀ a b, E a b = true → b < 40) {o d : Nat} (ho : o < 40) (hd : G.2.2.1 o = d + 1) {b : Nat} (hb : b < 40) (hth : bs_th E G o d d b) (hS : S b = true) : bs_an G d o ≤ b := by
  rcases Nat.lt_or_ge b (bs_an G d o) with e | e
  · exfalso
    obtain ⟨p1, p2⟩ := bs_anl h ho hd d (Nat.le_refl d)
    refine bs_no h hE ho hd d (Nat.le_refl d) b hth ?_
    obtain ⟨k, hk, ⟨h0, h40, -, -⟩, h1, h2, h3, h4, h5, h6, h7⟩ := h
    obtain ⟨j, q1, q2, q3⟩ := h2 _ p1 (by omega)
    obtain ⟨m, a1, a2, a3, a4, a5, a6, a7⟩ := h5 j q1 q2
    rw [q3] at a5 a7
    have hm : m = 0 := by
      rcases Nat.eq_zero_or_pos m with e0 | e0
      · exact e0
      · have := (h1 m e0 (by omega)).2.1
        omega
    subst hm
    obtain ⟨l, b1, b2, b3⟩ := a7 b e (by rw [h0, bs_E40]; exact hS)
    exact ⟨l, j, b2, q2, b3, q3⟩
  · exact e
set_option maxRecDepth 8192 in
theorem bs_low (h : bs_fin (bs_E E S) G) (hE : ∀ a b, E a b = true → b < 40) {o d n : Nat} (ho : o < 40) (hd : G.2.2.1 o = d + 1) (hn : n + 1 ≤ d) {b : Nat} (hb : b < 40) (hth : bs_th E G o d n b) (he : E (bs_an G (n + 1) o) b = true) : bs_an G n o ≤ b := by
  rcases Nat.lt_or_ge b (bs_an G n o) with e | e
  · exfalso
    obtain ⟨p1, p2⟩ := bs_anl h ho hd n (by omega)
    obtain ⟨p3, p4⟩ := bs_anl h ho hd (n + 1) hn
    refine bs_no h hE ho hd n (by omega) b hth ?_
    obtain ⟨k, hk, ⟨h0, h40, -, -⟩, h1, h2, h3, h4, h5, h6, h7⟩ := h
    obtain ⟨j, q1, q2, q3⟩ := h2 _ p1 (by omega)
    obtain ⟨m, a1, a2, a3, a4, a5, a6, a7⟩ := h5 j q1 q2
    rw [q3] at a3 a7
    obtain ⟨l, b1, b2, b3⟩ := a7 b e (by rw [← a3]; rw [show G.2.2.2 (bs_an G n o) = bs_an G (n + 1) o from rfl, bs_Elt p3]; exact he)
    exact ⟨l, j, b2, q2, b3, q3⟩
  · exact e
end BF2
