/-! what can be reached, by how many steps; no program in it -/
def pq_any (p : Nat → Bool) : Nat → Bool
  | 0 => false
  | n + 1 => pq_any p n || p n
set_option maxRecDepth 8192 in
theorem pq_any_iff (p : Nat → Bool) : ∀ n, pq_any p n = true ↔ ∃ i, i < n ∧ p i = true
  | 0 => by simp [pq_any]
  | n + 1 => by
    rw [pq_any, Bool.or_eq_true, pq_any_iff p n]
    constructor
    · rintro (⟨i, h, hp⟩ | hp)
      · exact ⟨i, by omega, hp⟩
      · exact ⟨n, by omega, hp⟩
    · rintro ⟨i, h, hp⟩
      rcases Nat.lt_or_ge i n with h1 | h1
      · exact Or.inl ⟨i, h1, hp⟩
      · have : i = n := by omega
        subst this
        exact Or.inr hp
set_option maxRecDepth 8192 in
theorem pq_any_false (p : Nat → Bool) (n : Nat) : pq_any p n = false ↔ ∀ i, i < n → p i = false := by
  constructor
  · intro h i hi
    cases e : p i with
    | false => rfl
    | true =>
      have := (pq_any_iff p n).mpr ⟨i, hi, e⟩
      rw [h] at this
      cases this
  · intro h
    cases e : pq_any p n with
    | false => rfl
    | true =>
      obtain ⟨i, hi, hp⟩ := (pq_any_iff p n).mp e
      rw [h i hi] at hp
      cases hp
set_option maxRecDepth 8192 in
theorem pq_any_cong {p q : Nat → Bool} : ∀ {n : Nat}, (∀ i, i < n → p i = q i) → pq_any p n = pq_any q n
  | 0, _ => rfl
  | n + 1, h => by rw [pq_any, pq_any, pq_any_cong (fun i hi => h i (by omega)), h n (by omega)]
/-! the fold that gathers sets -/
set_option maxRecDepth 8192 in
theorem pm_fold_gather (c : Nat → Bool) (q : Nat → Nat → Bool) (a : Nat → Bool) (m : Nat) : pm_fold (fun i (x : Int64) => x ||| (if c i then hb_mk (q i) else 0)) m (hb_mk a) = hb_mk (fun t => a t || pq_any (fun i => c i && q i t) m) := by
  refine pm_fold_inv (fun i (x : Int64) => x ||| (if c i then hb_mk (q i) else 0)) (fun k x => x = hb_mk (fun t => a t || pq_any (fun i => c i && q i t) k)) m (hb_mk a) (pb_congr (fun j _ => by simp [pq_any])) ?_
  intro i b hi hb
  subst hb
  by_cases hc : c i = true
  · simp only [hc, if_true]
    rw [pb_or]
    exact pb_congr (fun j _ => by simp [pq_any, hc, Bool.or_assoc])
  · have hc2 : c i = false := by cases h : c i <;> simp_all
    simp only [hc2, Bool.false_eq_true, if_false]
    rw [← pb_0, pb_or]
    exact pb_congr (fun j _ => by simp [pq_any, hc2])
set_option maxRecDepth 8192 in
theorem pm_fold_gather0 (c : Nat → Bool) (q : Nat → Nat → Bool) (m : Nat) : pm_fold (fun i (x : Int64) => x ||| (if c i then hb_mk (q i) else 0)) m 0 = hb_mk (fun t => pq_any (fun i => c i && q i t) m) := by
  have h := pm_fold_gather c q (fun _ => false) m
  rw [pb_0] at h
  rw [h]
  exact pb_congr (fun j _ => by simp)
set_option maxRecDepth 8192 in
theorem pb_some {p q : Nat → Bool} {σ : hb_M} (h : ∀ j, j < 40 → p j = q j) : some (hb_mk p, σ) = some (hb_mk q, σ) := by rw [pb_congr h]
set_option maxRecDepth 8192 in
theorem pb_or_0 (x : Int64) : x ||| 0 = x := by
  apply pb_ext
  intro j _
  unfold pb_t
  rw [Int64.toBitVec_or, BitVec.getLsbD_or]
  have : (0 : Int64).toBitVec.getLsbD j = false := by
    show (0#64).getLsbD j = false
    simp
  rw [this, Bool.or_false]
def pr_R (E : Nat → Nat → Bool) (S : Nat → Bool) (o : Nat) : Prop := ∀ X : Nat → Prop, (∀ s, S s = true → X s) → (∀ a b, X a → E a b = true → X b) → X o
noncomputable def pr_b (E : Nat → Nat → Bool) (S : Nat → Bool) (o : Nat) : Bool := @decide (pr_R E S o) (Classical.propDecidable _)
set_option maxRecDepth 8192 in
theorem pr_b_iff {E : Nat → Nat → Bool} {S : Nat → Bool} {o : Nat} : pr_b E S o = true ↔ pr_R E S o := by
  unfold pr_b
  exact @decide_eq_true_iff _ (Classical.propDecidable _)
set_option maxRecDepth 8192 in
theorem pr_b_not {E : Nat → Nat → Bool} {S : Nat → Bool} {o : Nat} : pr_b E S o = false ↔ ¬ pr_R E S o := by
  rw [← pr_b_iff]
  cases pr_b E S o <;> simp
def pr_W (E : Nat → Nat → Bool) (S : Nat → Bool) : Nat → Nat → Prop
  | 0, o => S o = true
  | d + 1, o => ∃ p, pr_W E S d p ∧ E p o = true
def pr_D (E : Nat → Nat → Bool) (S : Nat → Bool) (d o : Nat) : Prop := pr_W E S d o ∧ ∀ k, k < d → ¬ pr_W E S k o
section PGR
variable {E : Nat → Nat → Bool} {S : Nat → Bool}
set_option maxRecDepth 8192 in
theorem pr_start {s : Nat} (h : S s = true) : pr_R E S s := fun _ h1 _ => h1 s h
set_option maxRecDepth 8192 in
theorem pr_step {a b : Nat} (h : pr_R E S a) (he : E a b = true) : pr_R E S b := fun X h1 h2 => h2 a b (h X h1 h2) he
set_option maxRecDepth 8192 in
theorem pr_W_R : ∀ {d o : Nat}, pr_W E S d o → pr_R E S o
  | 0, _, h => pr_start h
  | _ + 1, _, ⟨_, h, he⟩ => pr_step (pr_W_R h) he
set_option maxRecDepth 8192 in
theorem pr_R_W {o : Nat} (h : pr_R E S o) : ∃ d, pr_W E S d o := h (fun o => ∃ d, pr_W E S d o) (fun _ hs => ⟨0, hs⟩) (fun _ _ ⟨d, hd⟩ he => ⟨d + 1, _, hd, he⟩)
set_option maxRecDepth 8192 in
theorem pr_W_D : ∀ {d o : Nat}, pr_W E S d o → ∃ k, k ≤ d ∧ pr_D E S k o := by
  intro d
  induction d using Nat.strongRecOn with
  | ind d ih =>
    intro o h
    by_cases hk : ∃ k, k < d ∧ pr_W E S k o
    · obtain ⟨k, hk, hw⟩ := hk
      obtain ⟨j, hj, hd⟩ := ih k hk hw
      exact ⟨j, by omega, hd⟩
    · exact ⟨d, Nat.le_refl d, h, fun k h1 h2 => hk ⟨k, h1, h2⟩⟩
set_option maxRecDepth 8192 in
theorem pr_R_D {o : Nat} (h : pr_R E S o) : ∃ d, pr_D E S d o := by
  obtain ⟨d, h⟩ := pr_R_W h
  obtain ⟨k, -, h⟩ := pr_W_D h
  exact ⟨k, h⟩
set_option maxRecDepth 8192 in
theorem pr_D_one {d k o : Nat} (h : pr_D E S d o) (h2 : pr_D E S k o) : d = k := by
  rcases Nat.lt_trichotomy d k with h3 | h3 | h3
  · exact absurd h.1 (h2.2 d h3)
  · exact h3
  · exact absurd h2.1 (h.2 k h3)
set_option maxRecDepth 8192 in
theorem pr_D_back {d o : Nat} (h : pr_D E S (d + 1) o) : ∃ p, pr_D E S d p ∧ E p o = true := by
  obtain ⟨⟨p, hw, he⟩, hm⟩ := h
  exact ⟨p, ⟨hw, fun k hk hk2 => hm (k + 1) (by omega) ⟨p, hk2, he⟩⟩, he⟩
set_option maxRecDepth 8192 in
theorem pr_D_all : ∀ {d o : Nat}, pr_D E S d o → ∀ k, k ≤ d → ∃ p, pr_D E S k p
  | 0, o, h, k, hk => ⟨o, by have : k = 0 := by omega
                             subst this; exact h⟩
  | d + 1, o, h, k, hk => by
    rcases Nat.lt_or_ge k (d + 1) with h1 | h1
    · obtain ⟨p, hp, -⟩ := pr_D_back h
      exact pr_D_all hp k (by omega)
    · have : k = d + 1 := by omega
      subst this
      exact ⟨o, h⟩
set_option maxRecDepth 8192 in
theorem pr_R_lt (hS : ∀ s, S s = true → s < 40) (hE : ∀ a b, E a b = true → b < 40) {o : Nat} (h : pr_R E S o) : o < 40 := h (fun o => o < 40) hS (fun _ _ _ he => hE _ _ he)
set_option maxRecDepth 8192 in
theorem pr_D_lt (hS : ∀ s, S s = true → s < 40) (hE : ∀ a b, E a b = true → b < 40) {d o : Nat} (h : pr_D E S d o) : d < 40 := by
  have hex := pr_D_all h
  have hch : ∃ f : Nat → Nat, ∀ k, k ≤ d → pr_D E S k (f k) := by
    refine ⟨fun k => if hk : k ≤ d then (hex k hk).choose else 0, ?_⟩
    intro k hk
    simp only [hk, dif_pos]
    exact (hex k hk).choose_spec
  obtain ⟨f, hf⟩ := hch
  have := fb_holes 40 (d + 1) f (fun i hi => pr_R_lt hS hE (pr_W_R (hf i (by omega)).1)) (fun i j hij hj e => by
    have h1 := hf i (by omega)
    have h2 := hf j (by omega)
    rw [e] at h1
    have := pr_D_one h1 h2
    omega)
  omega
set_option maxRecDepth 8192 in
theorem pr_R_mono {E' : Nat → Nat → Bool} {S' : Nat → Bool} (hS : ∀ s, S s = true → S' s = true) (hE : ∀ a b, E a b = true → E' a b = true) {o : Nat} (h : pr_R E S o) : pr_R E' S' o := h (pr_R E' S') (fun s hs => pr_start (hS s hs)) (fun a b ha he => pr_step ha (hE a b he))
set_option maxRecDepth 8192 in
theorem pr_b_cong {E' : Nat → Nat → Bool} {S' : Nat → Bool} (hS : ∀ s, S s = S' s) (hE : ∀ a b, E a b = E' a b) (o : Nat) : pr_b E S o = pr_b E' S' o := by
  have h1 : E = E' := by funext a b; exact hE a b
  have h2 : S = S' := by funext a; exact hS a
  rw [h1, h2]
end PGR
/-- the graph of a heap: what refers to what (one place left out), the roots (one object left out), sets left out -/
def pa_e (A : Nat → Nat → Nat) (q : Nat → Nat → Bool) (o t : Nat) : Bool := pa_al A o && decide (A o 1 ≠ 11) && pq_any (fun s => decide (A o (5 + s) = t + 1) && !q o s) 8
def pa_r (A : Nat → Nat → Nat) (o : Nat) : Bool := pa_al A o && decide (A o 4 ≠ 0)
def pg_S (A : Nat → Nat → Nat) (W : Nat → Bool) (u : Nat → Bool) (o : Nat) : Bool := decide (o < 40) && pa_r A o && !u o && !W o
def pg_E (A : Nat → Nat → Nat) (W : Nat → Bool) (q : Nat → Nat → Bool) (a b : Nat) : Bool := decide (a < 40) && pa_e A q a b && !W b
noncomputable def pg_b (A : Nat → Nat → Nat) (W : Nat → Bool) (q : Nat → Nat → Bool) (u : Nat → Bool) (o : Nat) : Bool := pr_b (pg_E A W q) (pg_S A W u) o
def pg_0 : Nat → Bool := fun _ => false
def pg_00 : Nat → Nat → Bool := fun _ _ => false
section PGA
variable {A : Nat → Nat → Nat}
set_option maxRecDepth 8192 in
theorem pa_e_al (w : pa_wf A) {q : Nat → Nat → Bool} {o t : Nat} (ho : o < 40) (h : pa_e A q o t = true) : t < 40 ∧ A t 0 ≠ 0 := by
  unfold pa_e at h
  simp only [Bool.and_eq_true, decide_eq_true_eq, pq_any_iff] at h
  obtain ⟨⟨ha, -⟩, s, hs, h1, -⟩ := h
  have ha2 : A o 0 ≠ 0 := by simpa [pa_al] using ha
  obtain ⟨-, -, -, hsl⟩ := w.2.2.2.1 o ho ha2
  obtain ⟨-, h40, hal⟩ := hsl s hs
  have := hal (by omega)
  rw [h1, Nat.add_sub_cancel] at this
  exact ⟨by omega, this⟩
set_option maxRecDepth 8192 in
theorem pg_S_lt {W u : Nat → Bool} (s : Nat) (h : pg_S A W u s = true) : s < 40 := by
  unfold pg_S at h
  simp only [Bool.and_eq_true, decide_eq_true_eq] at h
  exact h.1.1.1
set_option maxRecDepth 8192 in
theorem pg_E_lt (w : pa_wf A) {W : Nat → Bool} {q : Nat → Nat → Bool} (a b : Nat) (h : pg_E A W q a b = true) : b < 40 := by
  unfold pg_E at h
  simp only [Bool.and_eq_true, decide_eq_true_eq] at h
  exact (pa_e_al w h.1.1 h.1.2).1
set_option maxRecDepth 8192 in
theorem pg_b_al (w : pa_wf A) {W u : Nat → Bool} {q : Nat → Nat → Bool} {o : Nat} (h : pg_b A W q u o = true) : o < 40 ∧ A o 0 ≠ 0 := by
  have h := pr_b_iff.mp h
  refine h (fun o => o < 40 ∧ A o 0 ≠ 0) ?_ ?_
  · intro s hs
    have h40 := pg_S_lt s hs
    unfold pg_S pa_r pa_al at hs
    simp only [Bool.and_eq_true, decide_eq_true_eq] at hs
    exact ⟨h40, hs.1.1.2.1⟩
  · intro a b _ he
    unfold pg_E at he
    simp only [Bool.and_eq_true, decide_eq_true_eq] at he
    exact pa_e_al w he.1.1 he.1.2
end PGA
