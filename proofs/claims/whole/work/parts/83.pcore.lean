/-! what an option answers, loops, and plain words for ints -/
def pw_w {α : Type} (o : Option α) (Q : α → Prop) : Prop := ∃ b, o = some b ∧ Q b
theorem hw_some {α : Type} {b : α} {Q : α → Prop} : pw_w (some b) Q ↔ Q b := by
  constructor
  · rintro ⟨c, h, hq⟩
    cases h
    exact hq
  · intro h
    exact ⟨b, rfl, h⟩
theorem hw_bind {α β : Type} {o : Option α} {f : α → Option β} {Q : β → Prop} : pw_w (o.bind f) Q ↔ pw_w o (fun b => pw_w (f b) Q) := by
  cases o with
  | none => constructor <;> (rintro ⟨c, h, hq⟩; cases h)
  | some b =>
    constructor
    · intro h
      exact ⟨b, rfl, h⟩
    · rintro ⟨c, h, hq⟩
      cases h
      exact hq
theorem hw_mono {α : Type} {o : Option α} {P Q : α → Prop} (h : pw_w o P) (k : ∀ b, P b → Q b) : pw_w o Q := by
  obtain ⟨b, h, hp⟩ := h
  exact ⟨b, h, k b hp⟩
theorem hw_eq {α : Type} {o : Option α} {b : α} {Q : α → Prop} (h : o = some b) (hq : Q b) : pw_w o Q := ⟨b, h, hq⟩
theorem hw_the {α : Type} {o : Option α} {b : α} (h : pw_w o (fun x => x = b)) : o = some b := by
  obtain ⟨c, h, e⟩ := h
  rw [h, e]
/-! a counting loop with a state: by an invariant, with early ends -/
theorem pm_for {α β : Type} (F : Nat → α → Nat → Option β) (P : Nat → α → Prop) (Q : β → Prop) (m : Nat) (hstep : ∀ n a i, i < m → P i a → pw_w (F (n + 1) a i) Q ∨ ∃ a', F (n + 1) a i = F n a' (i + 1) ∧ P (i + 1) a') (hend : ∀ n a, P m a → pw_w (F (n + 1) a m) Q) : ∀ n i a, i ≤ m → m - i < n → P i a → pw_w (F n a i) Q := by
  intro n
  induction n with
  | zero => intro i a _ h; omega
  | succ n ih =>
    intro i a hi hn hp
    rcases Nat.lt_or_ge i m with h | h
    · rcases hstep n a i h hp with h1 | ⟨a', h1, h2⟩
      · exact h1
      · rw [h1]
        exact ih (i + 1) a' (by omega) (by omega) h2
    · have : i = m := by omega
      subst this
      exact hend n a hp
def pm_fold {α : Type} (g : Nat → α → α) : Nat → α → α
  | 0, a => a
  | n + 1, a => g n (pm_fold g n a)
/-! a counting loop that goes to its end -/
theorem pm_loop {α β : Type} (F : Nat → α → Nat → Option β) (g : Nat → α → α) (m : Nat) {out : α → Option β} (hstep : ∀ n a i, i < m → F (n + 1) a i = F n (g i a) (i + 1)) (hend : ∀ n a, F (n + 1) a m = out a) (a : α) (n : Nat) (h : m < n) : F n a 0 = out (pm_fold g m a) := by
  have key : ∀ k, k ≤ m → F n a 0 = F (n - k) (pm_fold g k a) k := by
    intro k
    induction k with
    | zero => intro _; rfl
    | succ k ih =>
      intro hk
      rw [ih (by omega), show n - k = (n - (k + 1)) + 1 from by omega, hstep _ _ _ (by omega)]
      rfl
  rw [key m (Nat.le_refl m), show n - m = (n - m - 1) + 1 from by omega, hend]
/-! a loop that ends because something sinks -/
theorem pm_while {α β : Type} (F : Nat → α → Option β) (P : α → Prop) (μ : α → Nat) (Q : β → Prop) (hstep : ∀ n a, P a → pw_w (F (n + 1) a) Q ∨ ∃ a', F (n + 1) a = F n a' ∧ P a' ∧ μ a' < μ a) : ∀ n a, P a → μ a < n → pw_w (F n a) Q := by
  intro n
  induction n with
  | zero => intro a _ h; omega
  | succ n ih =>
    intro a hp hn
    rcases hstep n a hp with h1 | ⟨a', h1, h2, h3⟩
    · exact h1
    · rw [h1]
      exact ih a' h2 (by omega)
theorem pm_fold_inv {α : Type} (g : Nat → α → α) (P : Nat → α → Prop) (m : Nat) (a : α) (h0 : P 0 a) (hs : ∀ i b, i < m → P i b → P (i + 1) (g i b)) : P m (pm_fold g m a) := by
  have key : ∀ k, k ≤ m → P k (pm_fold g k a) := by
    intro k
    induction k with
    | zero => intro _; exact h0
    | succ k ih =>
      intro hk
      exact hs k _ (by omega) (ih (by omega))
  exact key m (Nat.le_refl m)
theorem pm_fold_cong {α : Type} {g g' : Nat → α → α} {m : Nat} (h : ∀ i a, i < m → g i a = g' i a) (a : α) : pm_fold g m a = pm_fold g' m a := by
  have key : ∀ k, k ≤ m → pm_fold g k a = pm_fold g' k a := by
    intro k
    induction k with
    | zero => intro _; rfl
    | succ k ih =>
      intro hk
      show g k _ = g' k _
      rw [ih (by omega), h k _ (by omega)]
  exact key m (Nat.le_refl m)
/-! the folds that come up again and again: sets, sums, counts -/
theorem pm_fold_set (p : Nat → Bool) : pm_fold (fun i (a : Int64) => a ||| (if p i then hb_mk (fun j => decide (j = i)) else 0)) 40 0 = hb_mk p := by
  have h := pm_fold_inv (fun i (a : Int64) => a ||| (if p i then hb_mk (fun j => decide (j = i)) else 0)) (fun k a => a = hb_mk (fun j => decide (j < k) && p j)) 40 0 (by rw [← pb_0]; exact pb_congr (fun j _ => by simp)) (by
    intro i b hi hb
    subst hb
    by_cases hp : p i = true
    · simp only [hp, if_true]
      rw [pb_or]
      apply pb_congr
      intro j _
      by_cases e : j = i
      · subst e
        simp [hp]
      · have : j < i + 1 ↔ j < i := by omega
        simp [e, this]
    · have hp2 : p i = false := by cases h : p i <;> simp_all
      simp only [hp2, Bool.false_eq_true, if_false]
      rw [← pb_0, pb_or]
      apply pb_congr
      intro j _
      by_cases e : j = i
      · subst e
        simp [hp2]
      · have : j < i + 1 ↔ j < i := by omega
        simp [this])
  rw [h]
  exact pb_congr (fun j hj => by simp [hj])
theorem pm_fold_sum (v : Nat → Nat) (m : Nat) (s : Nat) : pm_fold (fun i (a : Int32) => a + nI (v i)) m (nI s) = nI (s + fb_sm v m) := by
  induction m with
  | zero => rfl
  | succ m ih =>
    show pm_fold (fun i (a : Int32) => a + nI (v i)) m (nI s) + nI (v m) = _
    rw [ih, nI_add, fb_sm_succ, Nat.add_assoc]
theorem pm_fold_sumL (v : Nat → Nat) (m : Nat) (s : Nat) : pm_fold (fun i (a : Int64) => a + lN (v i)) m (lN s) = lN (s + fb_sm v m) := by
  induction m with
  | zero => rfl
  | succ m ih =>
    show pm_fold (fun i (a : Int64) => a + lN (v i)) m (lN s) + lN (v m) = _
    rw [ih, lN_add, fb_sm_succ, Nat.add_assoc]
/-- a truth as an int; a number or none as an int -/
def bI (b : Bool) : Int32 := nI (pb_b b)
theorem bI0 {b : Bool} : bI b = nI 0 ↔ b = false := by cases b <;> decide
theorem bI1 {b : Bool} : bI b = nI 1 ↔ b = true := by cases b <;> decide
theorem bIn {b : Bool} : (bI b = nI 0) = (b = false) := propext bI0
theorem bI01 (b : Bool) : bI b = nI 0 ∨ bI b = nI 1 := by cases b <;> decide
theorem bI_t : bI true = nI 1 := rfl
theorem bI_f : bI false = nI 0 := rfl
theorem pz_zr {b : Bool} {σ : hb_M} : hb_zr (bI b) σ = some (bI b, σ) := by
  unfold hb_zr
  exact if_pos (bI01 b)
theorem pbs {α β : Type} (a : α) (f : α → Option β) : (some a).bind f = f a := congrArg id rfl
theorem plit (n : Nat) : (OfNat.ofNat n : Int32) = nI n := congrArg id (fa_lit n)
def mI (x : Nat) : Int32 := nI x - nI 1
theorem mI_s (x : Nat) : mI (x + 1) = nI x := nI_pred x
theorem mI_0 : mI 0 = -nI 1 := by decide
theorem nI_31 {x : Nat} (h : x < 2147483648) : x < 2 ^ 31 := h
theorem mI_none {x : Nat} (h : x < 2 ^ 31) : (mI x = -nI 1) = (x = 0) := by
  cases x with
  | zero => simp [mI_0]
  | succ x =>
    rw [mI_s]
    have h1 : ¬ nI x = -nI 1 := by
      intro e
      have h2 := congrArg Int32.toInt e
      rw [nI_toInt (by omega), show (-nI 1).toInt = -1 from by decide] at h2
      omega
    simp [h1]
theorem nI_m1 {x : Nat} (h : x < 2 ^ 31) : (nI x = -nI 1) = False := by
  apply eq_false
  intro e
  have h2 := congrArg Int32.toInt e
  rw [nI_toInt h, show (-nI 1).toInt = -1 from by decide] at h2
  omega
theorem mI_eq {x y : Nat} (hx : x < 2 ^ 31) (hy : y < 2 ^ 31) : (mI x = mI y) = (x = y) := by
  cases y with
  | zero => rw [mI_0, mI_none hx]
  | succ y =>
    cases x with
    | zero =>
      rw [mI_0, mI_s]
      have h1 : ¬ (-nI 1 : Int32) = nI y := fun e => by
        have e2 := e.symm
        rw [nI_m1 (by omega)] at e2
        exact e2
      simp [h1]
    | succ x =>
      rw [mI_s, mI_s, nI_eq (by omega) (by omega)]
      simp
theorem mI_nI {x y : Nat} (hx : x < 2 ^ 31) (hy : y + 1 < 2 ^ 31) : (mI x = nI y) = (x = y + 1) := by
  rw [← mI_s, mI_eq hx hy]
theorem mI_neg {x : Nat} (h : x < 2 ^ 31) : (mI x < nI 0) = (x = 0) := by
  cases x with
  | zero => rw [mI_0]; exact eq_true (by decide) |>.trans (by simp)
  | succ x =>
    rw [mI_s]
    have := nI_pos (n := x) (by omega)
    exact (eq_false this).trans (by simp)
theorem pn_lt0 {x : Nat} (h : x < 2 ^ 31) : (nI x < nI 0) = False := eq_false (nI_pos h)
theorem pn_le {a b : Nat} (ha : a < 2 ^ 31) (hb : b < 2 ^ 31) : (nI a ≤ nI b) = (a ≤ b) := propext (nI_leI ha hb)
theorem pn_lt {a b : Nat} (ha : a < 2 ^ 31) (hb : b < 2 ^ 31) : (nI a < nI b) = (a < b) := propext (nI_ltI ha hb)
theorem pn_eq {a b : Nat} (ha : a < 2 ^ 31) (hb : b < 2 ^ 31) : (nI a = nI b) = (a = b) := propext (nI_eq ha hb)
theorem pn_pred {a : Nat} (h : 0 < a) : nI a - nI 1 = nI (a - 1) := by
  obtain ⟨b, rfl⟩ : ∃ b, a = b + 1 := ⟨a - 1, by omega⟩
  rw [show nI (b + 1) - nI 1 = nI b from nI_pred b]; rfl
theorem pn_out {x : Int32} {n : Nat} (hn : n < 2 ^ 31) (h : ¬ ∃ j, j < n ∧ x = nI j) : x < nI 0 ∨ (¬ x < nI 0 ∧ nI n ≤ x) := by
  rcases pk_ix x hn with h1 | h1 | h1
  · exact Or.inl h1
  · by_cases h2 : x < nI 0
    · exact Or.inl h2
    · exact Or.inr ⟨h2, h1⟩
  · exact absurd h1 h
/-- the place of an object's number, if it is one below n -/
def pn_at (n : Nat) (x : Int32) : Option Nat := if x < 0 ∨ nI n ≤ x then none else some x.toNatClampNeg
theorem pn_at_nI {n j : Nat} (hn : n < 2 ^ 31) (h : j < n) : pn_at n (nI j) = some j := by
  unfold pn_at
  rw [if_neg, nI_clamp (by omega)]
  rintro (h1 | h1)
  · exact nI_pos (by omega) h1
  · exact nI_ge h hn h1
theorem pn_at_some {n j : Nat} {x : Int32} (hn : n < 2 ^ 31) (h : pn_at n x = some j) : j < n ∧ x = nI j := by
  unfold pn_at at h
  split at h
  · cases h
  · next h1 =>
    rcases pk_ix x hn with h2 | h2 | ⟨k, hk, e⟩
    · exact absurd (Or.inl h2) h1
    · exact absurd (Or.inr h2) h1
    · subst e
      rw [nI_clamp (by omega)] at h
      cases h
      exact ⟨hk, rfl⟩
theorem pn_at_none {n : Nat} {x : Int32} (h : pn_at n x = none) : x < 0 ∨ nI n ≤ x := by
  unfold pn_at at h
  split at h
  · assumption
  · cases h
