/-! the filter: chains, and the whole reading -/
set_option maxRecDepth 8192 in
theorem fA_adv {t : Nat} {T : Nat → Nat} {A : Nat → Nat → Nat} {s : Nat × Bool} (hz : (fA t T A s).1.2 = false) : s.1 < (fA t T A s).1.1 := by
  unfold fA at hz ⊢
  by_cases z1 : tk t T s.1 s.2 42 = true
  · rw [if_pos z1]
    exact Nat.lt_succ_self s.1
  · rw [if_neg z1] at hz ⊢
    by_cases z2 : tk t T s.1 s.2 64 = true
    · rw [if_pos z2] at hz ⊢
      have := (eN_ok hz).2.1
      exact Nat.lt_of_lt_of_le (Nat.lt_succ_self s.1) (by simp only at this ⊢; omega)
    · rw [if_neg z2] at hz ⊢
      have z3 := eN_ok hz
      have z4 := eO_ok z3.1
      have z5 := eO_ok (fG_O.1 z3.1)
      have e3 : (eO t T 1 s).1 = s.1 + 1 := by unfold eO; simp only [z5, if_true]
      have e4 : (eO t T 2 (eO t T 1 s)).1 = s.1 + 2 := by
        show (if to t T (eO t T 1 s).1 (eO t T 1 s).2 2 then (eO t T 1 s).1 + 1 else (eO t T 1 s).1) = s.1 + 2
        rw [z4, if_pos rfl, e3]
      show s.1 < (eN t T 4 (eO t T 2 (eO t T 1 s))).1
      have := z3.2.1
      omega
set_option maxRecDepth 8192 in
theorem fU_adv {t : Nat} {T : Nat → Nat} {A : Nat → Nat → Nat} {kF : Nat × Bool → (Nat × Bool) × (Nat → Bool)} (hk : ∀ s, (kF s).1.2 = false → s.1 ≤ (kF s).1.1) {d : Nat} (s : Nat × Bool) (h : (fU t T A kF d s).1.2 = false) : s.1 < (fU t T A kF d s).1.1 := by
  have hb : s.1 ≤ (eB t T s).1 := by
    unfold eB
    show s.1 ≤ (if s.2 then s.1 else s.1 + tb t T 100 s.1)
    split <;> omega
  have h2 : (fR t T A kF d (eB t T s)).1.2 = false := h
  show s.1 < (fR t T A kF d (eB t T s)).1.1
  unfold fR at h2 ⊢
  by_cases e : d < 8 ∧ tk t T (eB t T s).1 (eB t T s).2 40 = true
  · rw [if_pos e] at h2 ⊢
    obtain ⟨h3, h4, -⟩ := eX_ok h2
    have := hk _ h3
    simp only at this ⊢
    rw [h4]
    omega
  · rw [if_neg e] at h2 ⊢
    have := fA_adv h2
    omega
set_option maxRecDepth 8192 in
theorem fL_t {t : Nat} {T : Nat → Nat} {op : Nat} {g : Bool → Bool → Bool} {u : Nat × Bool → (Nat × Bool) × (Nat → Bool)} {n : Nat} {x : (Nat × Bool) × (Nat → Bool)} (h : x.1.2 = true) : fL t T op g u n x = x := by
  cases n with
  | zero => rfl
  | succ n =>
    unfold fL
    rw [if_neg]
    rw [h]
    simp [tk, tn]
set_option maxRecDepth 8192 in
theorem fL_adv {t : Nat} {T : Nat → Nat} {op : Nat} {g : Bool → Bool → Bool} {u : Nat × Bool → (Nat × Bool) × (Nat → Bool)} (hu : ∀ s, fG t s (u s).1) (ha : ∀ s, (u s).1.2 = false → s.1 ≤ (u s).1.1) (Q : Nat → Prop) (hQ : ∀ s, s.1 ≤ t → (u s).1.2 = false → Q (u s).1.1) : ∀ n x, x.1.1 ≤ t → (fL t T op g u n x).1.2 = false → Q x.1.1 → x.1.1 ≤ (fL t T op g u n x).1.1 ∧ Q (fL t T op g u n x).1.1 ∧ (t ≤ x.1.1 + n → tl t T (fL t T op g u n x).1.1 ≠ op + 1) := by
  intro n
  induction n with
  | zero =>
    intro x hx h hq
    refine ⟨Nat.le_refl _, hq, fun h1 => ?_⟩
    show tl t T x.1.1 ≠ op + 1
    unfold tl
    rw [if_neg (by omega)]
    omega
  | succ n ih =>
    intro x hx h hq
    unfold fL at h ⊢
    by_cases e : tk t T x.1.1 x.1.2 op = true
    · rw [if_pos e] at h ⊢
      have hok := (fG_L hu n _).1 h
      simp only at hok
      have h1 := ha _ hok
      have hlt := (tk_lt e).1
      have h2 := (hu (x.1.1 + 1, x.1.2)).2 (show x.1.1 + 1 ≤ t from hlt)
      obtain ⟨i1, i2, i3⟩ := ih ((u (x.1.1 + 1, x.1.2)).1, fun o => g (x.2 o) ((u (x.1.1 + 1, x.1.2)).2 o)) h2 h (hQ _ (show x.1.1 + 1 ≤ t from hlt) hok)
      simp only at i1 i3 h1
      exact ⟨by omega, i2, fun h9 => i3 (by omega)⟩
    · rw [if_neg e] at h ⊢
      refine ⟨Nat.le_refl _, hq, fun _ h9 => e ?_⟩
      unfold tk tn
      rw [h]
      simp [h9]
set_option maxRecDepth 8192 in
theorem fP_adv {t : Nat} {T : Nat → Nat} {A : Nat → Nat → Nat} (ht : t ≤ 100) {kF : Nat × Bool → (Nat × Bool) × (Nat → Bool)} (hg : ∀ s, fG t s (kF s).1) (hk : ∀ s, (kF s).1.2 = false → s.1 ≤ (kF s).1.1) {d : Nat} (s : Nat × Bool) (hs : s.1 ≤ t) (h : (fP t T A kF d s).1.2 = false) : s.1 < (fP t T A kF d s).1.1 ∧ tl t T (fP t T A kF d s).1.1 ≠ 39 := by
  have h1 := (fG_L (fG_U hg) 99 (fU t T A kF d s)).1 h
  have h2 := fU_adv hk s h1
  obtain ⟨i1, -, i3⟩ := fL_adv (op := 38) (g := and) (fG_U hg) (fun s hs => Nat.le_of_lt (fU_adv hk s hs)) (fun _ => True) (fun _ _ _ => trivial) 99 (fU t T A kF d s) ((fG_U hg s).2 hs) h trivial
  exact ⟨Nat.lt_of_lt_of_le h2 i1, i3 (by omega)⟩
set_option maxRecDepth 8192 in
theorem fP_adv2 {t : Nat} {T : Nat → Nat} {A : Nat → Nat → Nat} (ht : t ≤ 100) {kF : Nat × Bool → (Nat × Bool) × (Nat → Bool)} (hg : ∀ s, fG t s (kF s).1) (hk : ∀ s, (kF s).1.2 = false → s.1 ≤ (kF s).1.1) {d : Nat} (s : Nat × Bool) (h : (fP t T A kF d s).1.2 = false) : s.1 ≤ (fP t T A kF d s).1.1 := by
  have h1 := (fG_L (fG_U hg) 99 (fU t T A kF d s)).1 h
  have h2 := fU_adv hk s h1
  by_cases e : (fU t T A kF d s).1.1 ≤ t
  · obtain ⟨i1, -, i3⟩ := fL_adv (op := 38) (g := and) (fG_U hg) (fun s hs => Nat.le_of_lt (fU_adv hk s hs)) (fun _ => True) (fun _ _ _ => trivial) 99 (fU t T A kF d s) e h trivial
    exact Nat.le_of_lt (Nat.lt_of_lt_of_le h2 i1)
  · have : fP t T A kF d s = fU t T A kF d s := by
      unfold fP
      show fL t T 38 and (fU t T A kF d) (98 + 1) (fU t T A kF d s) = _
      unfold fL
      rw [if_neg]
      intro h9
      exact e (Nat.le_of_lt (tk_lt h9).1)
    rw [this]
    exact Nat.le_of_lt h2
set_option maxRecDepth 8192 in
theorem fF_adv {t : Nat} {T : Nat → Nat} {A : Nat → Nat → Nat} (ht : t ≤ 100) {kF : Nat × Bool → (Nat × Bool) × (Nat → Bool)} (hg : ∀ s, fG t s (kF s).1) (hk : ∀ s, (kF s).1.2 = false → s.1 ≤ (kF s).1.1) {d : Nat} (s : Nat × Bool) (h : (fF t T A kF d s).1.2 = false) : s.1 ≤ (fF t T A kF d s).1.1 ∧ (s.1 ≤ t → tl t T (fF t T A kF d s).1.1 ≠ 39 ∧ tl t T (fF t T A kF d s).1.1 ≠ 125) := by
  have h1 := (fG_L (fG_P hg) 99 (fP t T A kF d s)).1 h
  have h2 := fP_adv2 ht hg hk s h1
  by_cases e : (fP t T A kF d s).1.1 ≤ t
  · obtain ⟨i1, i2, i3⟩ := fL_adv (op := 124) (g := or) (fG_P hg) (fun s hs => fP_adv2 ht hg hk s hs) (fun q => s.1 ≤ t → tl t T q ≠ 39) (fun s hs h _ => (fP_adv ht hg hk s hs h).2) 99 (fP t T A kF d s) e h (fun hs => (fP_adv ht hg hk s hs h1).2)
    refine ⟨Nat.le_trans h2 i1, fun hs => ⟨i2 hs, i3 ?_⟩⟩
    have := (fP_adv ht hg hk s hs h1).1
    omega
  · have hf : fF t T A kF d s = fP t T A kF d s := by
      unfold fF
      show fL t T 124 or (fP t T A kF d) (98 + 1) (fP t T A kF d s) = _
      unfold fL
      rw [if_neg]
      intro h9
      exact e (Nat.le_of_lt (tk_lt h9).1)
    rw [hf]
    exact ⟨h2, fun hs => absurd ((fG_P hg s).2 hs) e⟩
set_option maxRecDepth 8192 in
theorem fN_adv {t : Nat} {T : Nat → Nat} {A : Nat → Nat → Nat} (ht : t ≤ 100) : ∀ n d s, (fN t T A n d s).1.2 = false → s.1 ≤ (fN t T A n d s).1.1 := by
  intro n
  induction n with
  | zero => exact fun _ s _ => Nat.le_refl s.1
  | succ n ih => exact fun d s h => (fF_adv ht (fG_Nn n (d + 1)) (ih (d + 1)) s h).1
section FIL8
variable {I J : Nat → Nat → Int32} {L K : Nat → Nat → Int64} {r : Nat → Option Nat} {A : Nat → Nat → Nat} {n : Nat} {H : Nat → Nat → Nat → Nat} {t : Nat} {T : Nat → Nat} {P : Nat → Nat → Nat → Nat} {k : Nat → Bool} {B : Nat}
set_option maxRecDepth 8192 in
theorem r9_links (ht : t ≤ 100) (hT : ∀ j, j < t → T j < 128) {d x c : Nat} {g : Bool → Bool → Bool} {u : Nat × Bool → (Nat × Bool) × (Nat → Bool)} (hx : x = 200 ∧ c = 38 ∧ g = and ∨ x = 201 ∧ c = 124 ∧ g = or) (hu : mG t T A L r d x u) (hg : ∀ s, fG t s (u s).1) (s : List Nat) (hs : sp (x + 1) s) (E : Nat → Option (List Bool)) : ∀ m (y : (Nat × Bool) × (Nat → Bool)) G K ks ops, y.1.2 = false → y.1.1 ≤ t → rT K t T → rM K ks (ops ++ s) → (∀ z ∈ ops, 201 ≤ z ∧ z ≤ x + 1) → ks.length + (ops ++ s).length ≤ y.1.1 → 4096 ≤ G + y.1.1 → (∀ o, pa_al A o = true → ev A o (em ops ks) = (E o).map (fun l => y.2 o :: l)) → ((fL t T c g u m y).1.2 = true → ∃ K2, f_X9_reads_b16 G 130 (nI d) (nI 0) (nI y.1.1) (pm K L r) = some (nI (fL t T c g u m y).1.1, pm K2 L r) ∧ r2 K K2) ∧ ((fL t T c g u m y).1.2 = false → ∃ K2 ks' ops' G2, f_X9_reads_b16 G 130 (nI d) (nI 0) (nI y.1.1) (pm K L r) = f_X9_reads_b16 G2 130 (nI d) (nI 0) (nI (fL t T c g u m y).1.1) (pm K2 L r) ∧ r2 K K2 ∧ rM K2 ks' (ops' ++ s) ∧ (∀ z ∈ ops', 201 ≤ z ∧ z ≤ x + 1) ∧ 4096 ≤ G2 + (fL t T c g u m y).1.1 ∧ ks'.length + (ops' ++ s).length ≤ (fL t T c g u m y).1.1 ∧ y.1.1 ≤ (fL t T c g u m y).1.1 ∧ ∀ o, pa_al A o = true → ev A o (em ops' ks') = (E o).map (fun l => (fL t T c g u m y).2 o :: l)) := by
  intro m
  induction m with
  | zero =>
    intro y G K ks ops e1 e2 h1 h2 h3 h4 h5 h6
    refine ⟨fun h => ?_, fun _ => ⟨K, ks, ops, G, rfl, r2_me K, h2, h3, h5, h4, Nat.le_refl _, h6⟩⟩
    have : y.1.2 = true := h
    rw [e1] at this
    cases this
  | succ m ih =>
    intro y G K ks ops e1 e2 h1 h2 h3 h4 h5 h6
    unfold fL
    by_cases ek : tk t T y.1.1 y.1.2 c = true
    · rw [if_pos ek]
      obtain ⟨l1, l2, l3⟩ := tk_lt ek
      have hTq : T y.1.1 = c := by
        unfold tl at l3
        rw [if_pos l1] at l3
        omega
      obtain ⟨q, hq⟩ : ∃ q, q = y.1.1 := ⟨_, rfl⟩
      rw [← hq] at l1 hTq h4 h5 e2 ⊢
      rw [show (q + 1, y.1.2) = (q + 1, false) from by rw [e1]]
      obtain ⟨G, rfl⟩ : ∃ H, G = H + 1 := ⟨G - 1, by omega⟩
      have m1 : (t ≤ q) = False := eq_false (by omega)
      -- the stack is emptied so far, and the sign waits
      obtain ⟨K1, c1, c2, c3, c4⟩ := r9_comesOut (L := L) (r := r) (x := x + 1) (by omega) _ ks hb_FU K h2 (by omega) (by unfold hb_FU; omega)
      rw [cO_em (fun z hz => by have := h3 z hz; omega) hs] at c2
      have c1' : f_X9_comesOut 130 (nI (x + 1)) (pm K L r) = some (pm K1 L r) := c1
      have hlen : (em ops ks).length + s.length ≤ q := by
        rw [em_len]
        simp only [List.length_append] at h4
        omega
      obtain ⟨K2, w1, w2, w3⟩ := r9_waits (L := L) (r := r) (x := x + 1) (by omega) c2 (show s.length < 100 from by omega)
      have hstep : f_X9_reads_b16 (G + 1) 130 (nI d) (nI 0) (nI q) (pm K L r) = f_X9_reads_b16 G 130 (nI d) (nI 1) (nI (q + 1)) (pm K2 L r) := by
        have hb56 : f_X9_reads_b16 (G + 1) 130 (nI d) (nI 0) (nI q) (pm K L r) = f_X9_reads_b56 (f_X9_reads_b16 G) 130 (nI d) (nI 0) (nI q) (nI c) (pm K L r) := by
          simp (disch := omega) only [f_X9_reads_b16, plit, pI_130_6, pbs, h1.1, pn_le, m1, if_false, pR_130_5, pA_134, h1.2 q l1, if_true, hTq]
        rcases hx with ⟨x1, x2, -⟩ | ⟨x1, x2, -⟩
        · subst x1
          subst x2
          rw [show 200 + 1 = 201 from rfl] at c1' w1
          rw [hb56]
          unfold f_X9_reads_b56
          rw [if_pos (show nI 0 = 0 from rfl)]
          unfold f_X9_reads_b91
          rw [if_pos (show nI 0 = 0 from rfl), if_pos (show nI 38 = 38 from rfl)]
          unfold f_X9_reads_b142 f_X9_reads_b159 f_X9_reads_b179 f_X9_reads_b236
          simp only [plit, if_true, pO_130, c1', pbs, w1, nI_add]
        · subst x1
          subst x2
          rw [show 201 + 1 = 202 from rfl] at c1' w1
          have n38 : (nI 124 = nI 38) = False := by decide
          rw [hb56]
          unfold f_X9_reads_b56
          rw [if_pos (show nI 0 = 0 from rfl)]
          unfold f_X9_reads_b91
          rw [if_pos (show nI 0 = 0 from rfl), if_neg (show ¬ nI 124 = 38 from by decide), if_pos (show nI 124 = 124 from rfl)]
          unfold f_X9_reads_b142 f_X9_reads_b159 f_X9_reads_b179 f_X9_reads_b236
          simp only [plit, n38, if_false, pO_130, c1', pbs, w1, nI_add]
      rw [hstep]
      have hK2 := rT_2 (rT_2 h1 c3) w3
      obtain ⟨i1, i2⟩ := hu G K2 (em ops ks) ((x + 1) :: s) (q + 1) l1 hK2 w2 (fun z l hz => by
        have := (List.cons.inj hz).1
        right
        omega) (by simp only [List.length_cons]; omega) (by omega)
      obtain ⟨y', hy'⟩ : ∃ y', y' = u (q + 1, false) := ⟨_, rfl⟩
      have hyl : y'.1.1 ≤ t := by rw [hy']; exact (hg (q + 1, false)).2 l1
      rw [← hy'] at i1 i2 ⊢
      cases ef : y'.1.2
      · obtain ⟨K3, ks3, ops3, G3, j1, j2, j3, j4, j5, j6, j7, j8⟩ := i2 ef
        rw [j1]
        obtain ⟨a1, a2⟩ := ih (y'.1, fun o => g (y.2 o) (y'.2 o)) G3 K3 ks3 (ops3 ++ [x + 1]) ef hyl (rT_2 hK2 j2) (by rw [List.append_assoc]; exact j3) (fun z hz => by
          rcases List.mem_append.mp hz with h | h
          · have := j4 z h; omega
          · have := List.mem_singleton.mp h; omega) (by rw [List.append_assoc]; exact j6) j5 (fun o ho => by
          have hev : ev A o (em (ops3 ++ [x + 1]) ks3) = (ev A o (em ops3 ks3)).bind (sv A o (x + 1, 0, 0)) := by
            rw [em_app]
            rfl
          rw [hev, j8 o ho, h6 o ho]
          cases E o with
          | none => rfl
          | some l =>
            rcases hx with ⟨x1, -, x3⟩ | ⟨x1, -, x3⟩
            · subst x1
              subst x3
              rfl
            · subst x1
              subst x3
              rfl)
        have fr : r2 K K3 := r2_tr c3 (r2_tr w3 j2)
        refine ⟨fun h => ?_, fun h => ?_⟩
        · obtain ⟨K4, b1, b2⟩ := a1 h
          exact ⟨K4, b1, r2_tr fr b2⟩
        · obtain ⟨K4, ks4, ops4, G4, b1, b2, b3, b4, b5, b6, b7, b8⟩ := a2 h
          simp only at b7
          exact ⟨K4, ks4, ops4, G4, b1, r2_tr fr b2, b3, b4, b5, b6, by omega, b8⟩
      · obtain ⟨K3, j1, j2⟩ := i1 ef
        rw [fL_t (show ((y'.1, fun o => g (y.2 o) (y'.2 o)) : (Nat × Bool) × (Nat → Bool)).1.2 = true from ef)]
        refine ⟨fun _ => ⟨K3, j1, r2_tr c3 (r2_tr w3 j2)⟩, fun h => ?_⟩
        have h' : y'.1.2 = false := h
        rw [ef] at h'
        cases h'
    · rw [if_neg ek]
      refine ⟨fun h => ?_, fun _ => ⟨K, ks, ops, G, rfl, r2_me K, h2, h3, h5, h4, Nat.le_refl _, h6⟩⟩
      rw [e1] at h
      cases h
set_option maxRecDepth 8192 in
theorem r9_chain (ht : t ≤ 100) (hT : ∀ j, j < t → T j < 128) {d x c : Nat} {g : Bool → Bool → Bool} {u : Nat × Bool → (Nat × Bool) × (Nat → Bool)} (hx : x = 200 ∧ c = 38 ∧ g = and ∨ x = 201 ∧ c = 124 ∧ g = or) (hu : mG t T A L r d x u) (hg : ∀ s, fG t s (u s).1) : mG t T A L r d (x + 1) (fun s => fL t T c g u 99 (u s)) := by
  intro F J ks s p hp h hM hs hl hF
  obtain ⟨i1, i2⟩ := hu F J ks s p hp h hM (fun z l hz => by
    rcases hs z l hz with h | h
    · exact Or.inl h
    · right; omega) hl hF
  have hyl := (hg (p, false)).2 hp
  simp only
  obtain ⟨y, hy⟩ : ∃ y, y = u (p, false) := ⟨_, rfl⟩
  rw [← hy] at i1 i2 hyl ⊢
  cases ef : y.1.2
  · obtain ⟨K, ks1, ops, G, j1, j2, j3, j4, j5, j6, j7, j8⟩ := i2 ef
    rw [j1]
    obtain ⟨a1, a2⟩ := r9_links ht hT hx hu hg s hs (fun o => ev A o ks) 99 y G K ks1 ops ef hyl (rT_2 h j2) j3 (fun z hz => by have := j4 z hz; omega) j6 j5 j8
    refine ⟨fun h => ?_, fun h => ?_⟩
    · obtain ⟨K4, b1, b2⟩ := a1 h
      exact ⟨K4, b1, r2_tr j2 b2⟩
    · obtain ⟨K4, ks4, ops4, G4, b1, b2, b3, b4, b5, b6, b7, b8⟩ := a2 h
      exact ⟨K4, ks4, ops4, G4, b1, r2_tr j2 b2, b3, b4, b5, b6, by omega, b8⟩
  · rw [fL_t ef]
    obtain ⟨K, j1, j2⟩ := i1 ef
    refine ⟨fun _ => ⟨K, j1, j2⟩, fun h => ?_⟩
    rw [ef] at h
    cases h
set_option maxRecDepth 8192 in
theorem r9_filterN (ht : t ≤ 100) (hT : ∀ j, j < t → T j < 128) : ∀ n d, n + 2 + d = 10 → mG t T A L r d 202 (fN t T A (n + 2) d) := by
  intro n
  induction n with
  | zero =>
    intro d hd
    have hu := r9_unit (A := A) (L := L) (r := r) ht hT (d := d) (by omega) (gF := fN t T A 1 (d + 1)) (fun h => by omega) (fG_Nn 1 (d + 1)) (fun p hp h => (fF_adv ht (fG_Nn 0 (d + 2)) (fN_adv ht 0 (d + 2)) (p, false) h).2 hp)
    have hP := r9_chain ht hT (Or.inl ⟨rfl, rfl, rfl⟩) hu (fG_U (fG_Nn 1 (d + 1)))
    exact r9_chain ht hT (Or.inr ⟨rfl, rfl, rfl⟩) hP (fG_P (fG_Nn 1 (d + 1)))
  | succ n ih =>
    intro d hd
    have hu := r9_unit (A := A) (L := L) (r := r) ht hT (d := d) (by omega) (gF := fN t T A (n + 2) (d + 1)) (fun h => ih (d + 1) (by omega)) (fG_Nn (n + 2) (d + 1)) (fun p hp h => (fF_adv ht (fG_Nn (n + 1) (d + 2)) (fN_adv ht (n + 1) (d + 2)) (p, false) h).2 hp)
    have hP := r9_chain ht hT (Or.inl ⟨rfl, rfl, rfl⟩) hu (fG_U (fG_Nn (n + 2) (d + 1)))
    exact r9_chain ht hT (Or.inr ⟨rfl, rfl, rfl⟩) hP (fG_P (fG_Nn (n + 2) (d + 1)))
/-! the whole text -/
set_option maxRecDepth 8192 in
theorem r9_reads (h : rT I t T) (ht : t ≤ 100) (hT : ∀ j, j < t → T j < 128) : ((fE t (fN t T A 10 0 (0, false)).1).2 = true → ∃ K, f_X9_reads 130 (pm I L r) = some (nI (fN t T A 10 0 (0, false)).1.1, pm K L r) ∧ r2 I K) ∧ ((fE t (fN t T A 10 0 (0, false)).1).2 = false → ∃ K ks, f_X9_reads 130 (pm I L r) = some (-nI 1, pm K L r) ∧ r2 I K ∧ rM K ks [] ∧ ks.length ≤ 100 ∧ ∀ o, pa_al A o = true → ev A o ks = some [(fN t T A 10 0 (0, false)).2 o]) := by
  have f0 : r2 I (up2 (up2 I 130 19 (nI 0)) 130 21 (nI 0)) := r2_tr (r2_f (by omega)) (r2_f (by omega))
  have hm0 : rM (up2 (up2 I 130 19 (nI 0)) 130 21 (nI 0)) [] [] := ⟨by rw [up2_nj (by decide), up2_eq]; rfl, by rw [up2_eq]; rfl, trivial, trivial, fun y hy => by cases hy⟩
  have hT0 := rT_2 h f0
  obtain ⟨i1, i2⟩ := r9_filterN (A := A) (L := L) (r := r) ht hT 8 0 (by omega) hb_FU _ [] [] 0 (Nat.zero_le t) hT0 hm0 (fun y l hy => by cases hy) (by simp) (by unfold hb_FU; omega)
  have hyl := (fG_Nn (t := t) (T := T) (A := A) 10 0 (0, false)).2 (Nat.zero_le t)
  have hne := fun hh => (fF_adv (T := T) (A := A) ht (fG_Nn (t := t) (T := T) (A := A) 9 1) (fN_adv ht 9 1) (d := 0) (0, false) hh).2 (Nat.zero_le t)
  have hun : f_X9_reads 130 (pm I L r) = f_X9_reads_b16 hb_FU 130 (nI 0) (nI 1) (nI 0) (pm (up2 (up2 I 130 19 (nI 0)) 130 21 (nI 0)) L r) := by
    unfold f_X9_reads
    simp only [plit, pP_130_19, pP_130_21, pbs]
  rw [hun]
  have hyF : fN t T A 10 0 (0, false) = fF t T A (fN t T A 9 1) 0 (0, false) := rfl
  rw [← hyF] at hne
  obtain ⟨y, hy⟩ : ∃ y, y = fN t T A 10 0 (0, false) := ⟨_, rfl⟩
  rw [show 8 + 2 = 10 from rfl, ← hy] at i1 i2
  rw [← hy] at hyl hne ⊢
  unfold fE
  simp only [Bool.or_eq_true, Bool.or_eq_false_iff, decide_eq_true_eq, decide_eq_false_iff_not]
  cases ef : y.1.2
  · obtain ⟨K, ks, ops, G, j1, j2, j3, j4, j5, j6, j7, j8⟩ := i2 ef
    obtain ⟨hn39, hn125⟩ := hne ef
    rw [j1]
    obtain ⟨G, rfl⟩ : ∃ H, G = H + 1 := ⟨G - 1, by omega⟩
    have hK := rT_2 hT0 j2
    have n00 : (nI 0 ≤ nI 0) = True := by decide
    obtain ⟨q, hq⟩ : ∃ q, q = y.1.1 := ⟨_, rfl⟩
    rw [← hq] at hyl hn39 hn125 j6 j5 ⊢
    by_cases et : t ≤ q
    · refine ⟨fun h => ?_, fun _ => ?_⟩
      · rcases h with h | h
        · cases h
        · omega
      · obtain ⟨K1, c1, c2, c3, c4⟩ := r9_comesOut (L := L) (r := r) (x := 202) (by decide) _ ks hb_FU K j3 (by omega) (by unfold hb_FU; omega)
        rw [cO_em (fun z hz => by have := j4 z hz; omega) (fun z l hz => by cases hz)] at c2
        have c1' : f_X9_comesOut 130 (nI 202) (pm K L r) = some (pm K1 L r) := c1
        have m1 : (t ≤ q) = True := eq_true et
        refine ⟨K1, em ops ks, ?_, r2_tr f0 (r2_tr j2 c3), c2, ?_, fun o ho => j8 o ho⟩
        · simp (disch := omega) only [f_X9_reads_b16, plit, pI_130_6, pbs, hK.1, pn_le, m1, Nat.le_refl, if_true, pO_130, c1']
        · rw [em_len]
          simp only [List.length_append, List.length_nil] at j6
          omega
    · have hlt : q < t := by omega
      have htl : tl t T q = T q + 1 := by unfold tl; rw [if_pos hlt]
      have hTq := hT q hlt
      have m1 : (t ≤ q) = False := eq_false et
      have m38 : (T q = 38) = False := eq_false (by omega)
      have m124 : (T q = 124) = False := eq_false (by omega)
      refine ⟨fun _ => ⟨K, ?_, r2_tr f0 j2⟩, fun h => absurd hlt h.2⟩
      by_cases e41 : T q = 41
      · simp (disch := omega) only [f_X9_reads_b16, f_X9_reads_b56, f_X9_reads_b91, plit, pI_130_6, pbs, hK.1, pn_le, m1, if_false, pR_130_5, pA_134, hK.2 q hlt, if_true, pn_eq, e41, Nat.reduceEqDiff, Nat.le_refl]
      · have m41 : (T q = 41) = False := eq_false e41
        simp (disch := omega) only [f_X9_reads_b16, f_X9_reads_b56, f_X9_reads_b91, plit, pI_130_6, pbs, hK.1, pn_le, m1, if_false, pR_130_5, pA_134, hK.2 q hlt, if_true, pn_eq, m38, m124, m41]
  · obtain ⟨K, j1, j2⟩ := i1 ef
    exact ⟨fun _ => ⟨K, j1, r2_tr f0 j2⟩, fun h => by cases h.1⟩
end FIL8
