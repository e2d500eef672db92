/-! the filter: what it says, and how the class reads it -/
noncomputable def fv (A : Nat → Nat → Nat) (o a : Nat) : Nat := if a = 97 then A o 3 else if a = 100 then (if px_df A o = 0 then 99 else px_df A o - 1) else if a = 105 then pa_in A o 320 else if a = 110 then o else if a = 111 then pa_ou A o 320 else if a = 114 then pd_rt A o else if a = 115 then pa_so A o else A o 1
def fs (v op x : Nat) : Bool := if op = 60 then decide (v < x) else if op = 61 then decide (v = x) else decide (x < v)
noncomputable def fa (A : Nat → Nat → Nat) (o : Nat) (q : Nat × Nat × Nat) : Bool := if q.1 = 42 then decide (A o 4 ≠ 0) else if q.1 = 64 then decide (A o 1 < 10) && pa_bl A hb_FU (A o 1 + 1) q.2.2 else fs (fv A o q.1) q.2.1 q.2.2
def eO (t : Nat) (T : Nat → Nat) (k : Nat) (s : Nat × Bool) : Nat × Bool := (if to t T s.1 s.2 k then s.1 + 1 else s.1, s.2 || !to t T s.1 s.2 k)
def vO (t : Nat) (T : Nat → Nat) (s : Nat × Bool) : Nat := tn t T s.1 s.2 - 1
def tb (t : Nat) (T : Nat → Nat) : Nat → Nat → Nat
  | 0, _ => 0
  | m + 1, p => if tl t T p = 34 then tb t T m (p + 1) + 1 else 0
def eB (t : Nat) (T : Nat → Nat) (s : Nat × Bool) : Nat × Bool := (if s.2 then s.1 else s.1 + tb t T 100 s.1, s.2)
def vB (t : Nat) (T : Nat → Nat) (s : Nat × Bool) : Bool := !s.2 && decide (tb t T 100 s.1 % 2 = 1)
noncomputable def fA (t : Nat) (T : Nat → Nat) (A : Nat → Nat → Nat) (s : Nat × Bool) : (Nat × Bool) × (Nat → Bool) := if tk t T s.1 s.2 42 then ((s.1 + 1, s.2), fun o => pa_al A o && fa A o (42, 0, 0)) else if tk t T s.1 s.2 64 then (eN t T 1 (s.1 + 1, s.2), fun o => pa_al A o && fa A o (64, 0, vN t T 1 (s.1 + 1, s.2))) else (eN t T 4 (eO t T 2 (eO t T 1 s)), fun o => pa_al A o && fa A o (vO t T s, vO t T (eO t T 1 s), vN t T 4 (eO t T 2 (eO t T 1 s))))
noncomputable def fR (t : Nat) (T : Nat → Nat) (A : Nat → Nat → Nat) (kF : Nat × Bool → (Nat × Bool) × (Nat → Bool)) (d : Nat) (s : Nat × Bool) : (Nat × Bool) × (Nat → Bool) := if d < 8 ∧ tk t T s.1 s.2 40 = true then (eX t T 41 (kF (s.1 + 1, s.2)).1, (kF (s.1 + 1, s.2)).2) else fA t T A s
noncomputable def fU (t : Nat) (T : Nat → Nat) (A : Nat → Nat → Nat) (kF : Nat × Bool → (Nat × Bool) × (Nat → Bool)) (d : Nat) (s : Nat × Bool) : (Nat × Bool) × (Nat → Bool) := ((fR t T A kF d (eB t T s)).1, if vB t T s then fun o => pa_al A o && !(fR t T A kF d (eB t T s)).2 o else (fR t T A kF d (eB t T s)).2)
def fL (t : Nat) (T : Nat → Nat) (op : Nat) (g : Bool → Bool → Bool) (u : Nat × Bool → (Nat × Bool) × (Nat → Bool)) : Nat → (Nat × Bool) × (Nat → Bool) → (Nat × Bool) × (Nat → Bool)
  | 0, x => x
  | n + 1, x => if tk t T x.1.1 x.1.2 op then fL t T op g u n ((u (x.1.1 + 1, x.1.2)).1, fun o => g (x.2 o) ((u (x.1.1 + 1, x.1.2)).2 o)) else x
noncomputable def fP (t : Nat) (T : Nat → Nat) (A : Nat → Nat → Nat) (kF : Nat × Bool → (Nat × Bool) × (Nat → Bool)) (d : Nat) (s : Nat × Bool) : (Nat × Bool) × (Nat → Bool) := fL t T 38 and (fU t T A kF d) 99 (fU t T A kF d s)
noncomputable def fF (t : Nat) (T : Nat → Nat) (A : Nat → Nat → Nat) (kF : Nat × Bool → (Nat × Bool) × (Nat → Bool)) (d : Nat) (s : Nat × Bool) : (Nat × Bool) × (Nat → Bool) := fL t T 124 or (fP t T A kF d) 99 (fP t T A kF d s)
noncomputable def fN (t : Nat) (T : Nat → Nat) (A : Nat → Nat → Nat) : Nat → Nat → Nat × Bool → (Nat × Bool) × (Nat → Bool)
  | 0, _, s => (s, fun _ => false)
  | n + 1, d, s => fF t T A (fN t T A n (d + 1)) d s
/-- what each keeps: no way back from wrong, and inside the text -/
def fG (t : Nat) (s s' : Nat × Bool) : Prop := (s'.2 = false → s.2 = false) ∧ (s.1 ≤ t → s'.1 ≤ t)
set_option maxRecDepth 8192 in
theorem fG_tr {t : Nat} {a b c : Nat × Bool} (h1 : fG t a b) (h2 : fG t b c) : fG t a c := ⟨fun h => h1.1 (h2.1 h), fun h => h2.2 (h1.2 h)⟩
set_option maxRecDepth 8192 in
theorem fG_me (t : Nat) (s : Nat × Bool) : fG t s s := ⟨id, id⟩
set_option maxRecDepth 8192 in
theorem tk_lt {t : Nat} {T : Nat → Nat} {p : Nat} {f : Bool} {c : Nat} (h : tk t T p f c = true) : p < t ∧ f = false ∧ tl t T p = c + 1 := by
  have h1 := of_decide_eq_true h
  unfold tn at h1
  cases f
  · simp only [Bool.false_eq_true, if_false] at h1
    refine ⟨?_, rfl, h1⟩
    unfold tl at h1
    split at h1
    · assumption
    · omega
  · simp at h1
set_option maxRecDepth 8192 in
theorem fG_k {t : Nat} {T : Nat → Nat} {s : Nat × Bool} {c : Nat} (h : tk t T s.1 s.2 c = true) : fG t s (s.1 + 1, s.2) := ⟨id, fun _ => (tk_lt h).1⟩
set_option maxRecDepth 8192 in
theorem fG_X {t : Nat} {T : Nat → Nat} {s : Nat × Bool} {c : Nat} : fG t s (eX t T c s) := by
  refine ⟨fun h => (eX_ok h).1, fun h => ?_⟩
  unfold eX
  show (if tk t T s.1 s.2 c then s.1 + 1 else s.1) ≤ t
  split
  · next e => exact (tk_lt e).1
  · exact h
set_option maxRecDepth 8192 in
theorem tc_t {t : Nat} {T : Nat → Nat} : ∀ m p, p ≤ t → p + tc t T m p ≤ t := by
  intro m
  induction m with
  | zero => exact fun p h => h
  | succ m ih =>
    intro p h
    unfold tc
    split
    · next e =>
      have := ih (p + 1) (td_ex e).1
      omega
    · omega
set_option maxRecDepth 8192 in
theorem fG_N {t : Nat} {T : Nat → Nat} {s : Nat × Bool} {m : Nat} : fG t s (eN t T m s) := by
  refine ⟨fun h => (eN_ok h).1, fun h => ?_⟩
  unfold eN
  split
  · exact h
  · exact tc_t m s.1 h
set_option maxRecDepth 8192 in
theorem to_lt {t : Nat} {T : Nat → Nat} {p : Nat} {f : Bool} {k : Nat} (h : to t T p f k = true) : p < t ∧ f = false ∧ tn t T p f = T p + 1 ∧ (sL k).contains (T p) = true := by
  unfold to at h
  simp only [Bool.and_eq_true, decide_eq_true_eq] at h
  have hf : f = false := by
    cases f
    · rfl
    · exact absurd rfl h.1
  subst hf
  have hp : p < t := by
    by_cases e : p < t
    · exact e
    · exact absurd (show tn t T p false = 0 from by simp [tn, tl, e]) h.1
  have he : tn t T p false = T p + 1 := by simp [tn, tl, hp]
  rw [he, Nat.add_sub_cancel] at h
  exact ⟨hp, rfl, he, h.2⟩
set_option maxRecDepth 8192 in
theorem fG_O {t : Nat} {T : Nat → Nat} {s : Nat × Bool} {k : Nat} : fG t s (eO t T k s) := by
  refine ⟨fun h => ?_, fun h => ?_⟩
  · unfold eO at h
    simp only [Bool.or_eq_false_iff] at h
    exact h.1
  · unfold eO
    show (if to t T s.1 s.2 k then s.1 + 1 else s.1) ≤ t
    split
    · next e => exact (to_lt e).1
    · exact h
set_option maxRecDepth 8192 in
theorem eO_ok {t : Nat} {T : Nat → Nat} {s : Nat × Bool} {k : Nat} (h : (eO t T k s).2 = false) : to t T s.1 s.2 k = true := by
  unfold eO at h
  simp only [Bool.or_eq_false_iff] at h
  simpa using h.2
set_option maxRecDepth 8192 in
theorem tb_t {t : Nat} {T : Nat → Nat} : ∀ m p, p ≤ t → p + tb t T m p ≤ t := by
  intro m
  induction m with
  | zero => exact fun p h => h
  | succ m ih =>
    intro p h
    unfold tb
    split
    · next e =>
      have hp : p < t := by
        unfold tl at e
        split at e
        · assumption
        · omega
      have := ih (p + 1) hp
      omega
    · omega
set_option maxRecDepth 8192 in
theorem fG_B {t : Nat} {T : Nat → Nat} {s : Nat × Bool} : fG t s (eB t T s) := by
  refine ⟨id, fun h => ?_⟩
  unfold eB
  show (if s.2 then s.1 else s.1 + tb t T 100 s.1) ≤ t
  split
  · exact h
  · exact tb_t 100 s.1 h
set_option maxRecDepth 8192 in
theorem fG_A {t : Nat} {T : Nat → Nat} {A : Nat → Nat → Nat} {s : Nat × Bool} : fG t s (fA t T A s).1 := by
  unfold fA
  split
  · next e => exact fG_k e
  · split
    · next e => exact fG_tr (fG_k e) fG_N
    · exact fG_tr fG_O (fG_tr fG_O fG_N)
set_option maxRecDepth 8192 in
theorem fG_R {t : Nat} {T : Nat → Nat} {A : Nat → Nat → Nat} {kF : Nat × Bool → (Nat × Bool) × (Nat → Bool)} (hk : ∀ s, fG t s (kF s).1) {d : Nat} {s : Nat × Bool} : fG t s (fR t T A kF d s).1 := by
  unfold fR
  split
  · next e => exact fG_tr (fG_k e.2) (fG_tr (hk _) fG_X)
  · exact fG_A
set_option maxRecDepth 8192 in
theorem fG_U {t : Nat} {T : Nat → Nat} {A : Nat → Nat → Nat} {kF : Nat × Bool → (Nat × Bool) × (Nat → Bool)} (hk : ∀ s, fG t s (kF s).1) {d : Nat} (s : Nat × Bool) : fG t s (fU t T A kF d s).1 := fG_tr fG_B (fG_R hk)
set_option maxRecDepth 8192 in
theorem fG_L {t : Nat} {T : Nat → Nat} {op : Nat} {g : Bool → Bool → Bool} {u : Nat × Bool → (Nat × Bool) × (Nat → Bool)} (hu : ∀ s, fG t s (u s).1) : ∀ n x, fG t x.1 (fL t T op g u n x).1 := by
  intro n
  induction n with
  | zero => exact fun x => fG_me t x.1
  | succ n ih =>
    intro x
    unfold fL
    split
    · next e => exact fG_tr (fG_k e) (fG_tr (hu _) (ih ((u (x.1.1 + 1, x.1.2)).1, fun o => g (x.2 o) ((u (x.1.1 + 1, x.1.2)).2 o))))
    · exact fG_me t x.1
set_option maxRecDepth 8192 in
theorem fG_P {t : Nat} {T : Nat → Nat} {A : Nat → Nat → Nat} {kF : Nat × Bool → (Nat × Bool) × (Nat → Bool)} (hk : ∀ s, fG t s (kF s).1) {d : Nat} (s : Nat × Bool) : fG t s (fP t T A kF d s).1 := fG_tr (fG_U hk s) (fG_L (fG_U hk) 99 _)
set_option maxRecDepth 8192 in
theorem fG_F {t : Nat} {T : Nat → Nat} {A : Nat → Nat → Nat} {kF : Nat × Bool → (Nat × Bool) × (Nat → Bool)} (hk : ∀ s, fG t s (kF s).1) {d : Nat} (s : Nat × Bool) : fG t s (fF t T A kF d s).1 := fG_tr (fG_P hk s) (fG_L (fG_P hk) 99 _)
set_option maxRecDepth 8192 in
theorem fG_Nn {t : Nat} {T : Nat → Nat} {A : Nat → Nat → Nat} : ∀ n d s, fG t s (fN t T A n d s).1 := by
  intro n
  induction n with
  | zero => exact fun _ s => fG_me t s
  | succ n ih => exact fun d s => fG_F (ih (d + 1)) s
