/-! the filter: the reference's two stacks -/
def wS (J : Nat → Nat → Int32) : List Nat → Prop
  | [] => True
  | x :: l => J 145 l.length = nI x ∧ wS J l
def uS (J : Nat → Nat → Int32) : List (Nat × Nat × Nat) → Prop
  | [] => True
  | q :: l => (J 142 l.length = nI q.1 ∧ J 143 l.length = nI q.2.1 ∧ J 144 l.length = nI q.2.2) ∧ (q.1 ≤ 202 ∧ q.2.1 < 200 ∧ q.2.2 < 10000) ∧ uS J l
def rM (J : Nat → Nat → Int32) (k : List (Nat × Nat × Nat)) (s : List Nat) : Prop := J 130 19 = nI k.length ∧ J 130 21 = nI s.length ∧ uS J k ∧ wS J s ∧ ∀ y ∈ s, y < 300
def r2 (I J : Nat → Nat → Int32) : Prop := (∀ a, a ≠ 130 → (a < 142 ∨ 145 < a) → J a = I a) ∧ ∀ j, j ≠ 19 → j ≠ 21 → j ≠ 22 → J 130 j = I 130 j
def cO (x : Nat) : List (Nat × Nat × Nat) → List Nat → List (Nat × Nat × Nat) × List Nat
  | k, [] => (k, [])
  | k, y :: l => if y = 203 ∨ x < y then (k, y :: l) else cO x ((y, 0, 0) :: k) l
def em (ops : List Nat) (k : List (Nat × Nat × Nat)) : List (Nat × Nat × Nat) := ops.foldl (fun k y => (y, 0, 0) :: k) k
def sp (x : Nat) (s : List Nat) : Prop := ∀ y l, s = y :: l → y = 203 ∨ x < y
set_option maxRecDepth 8192 in
theorem r2_tr {I J K : Nat → Nat → Int32} (a : r2 I J) (b : r2 J K) : r2 I K := ⟨fun c h1 h2 => (b.1 c h1 h2).trans (a.1 c h1 h2), fun j h1 h2 h3 => (b.2 j h1 h2 h3).trans (a.2 j h1 h2 h3)⟩
set_option maxRecDepth 8192 in
theorem r2_me (I : Nat → Nat → Int32) : r2 I I := ⟨fun _ _ _ => rfl, fun _ _ _ _ => rfl⟩
set_option maxRecDepth 8192 in
theorem r2_a {I : Nat → Nat → Int32} {a j : Nat} {x : Int32} (h : 142 ≤ a ∧ a ≤ 145) : r2 I (up2 I a j x) := ⟨fun b _ h2 => up2_a (by omega), fun i _ _ _ => up2_ne (by omega)⟩
set_option maxRecDepth 8192 in
theorem r2_f {I : Nat → Nat → Int32} {j : Nat} {x : Int32} (h : j = 19 ∨ j = 21 ∨ j = 22) : r2 I (up2 I 130 j x) := ⟨fun b h2 _ => up2_a h2, fun i _ _ _ => up2_nj (by omega)⟩
set_option maxRecDepth 8192 in
theorem rT_2 {I J : Nat → Nat → Int32} {t : Nat} {T : Nat → Nat} (h : rT I t T) (e : r2 I J) : rT J t T := ⟨by rw [e.2 6 (by decide) (by decide) (by decide)]; exact h.1, fun j hj => by rw [e.1 134 (by decide) (by decide)]; exact h.2 j hj⟩
set_option maxRecDepth 8192 in
theorem wS_fr {I J : Nat → Nat → Int32} : ∀ {s : List Nat}, wS I s → (∀ i, i < s.length → J 145 i = I 145 i) → wS J s
  | [], _, _ => trivial
  | x :: l, h, e => ⟨by rw [e l.length (by simp)]; exact h.1, wS_fr h.2 (fun i hi => e i (by simp; omega))⟩
set_option maxRecDepth 8192 in
theorem uS_fr {I J : Nat → Nat → Int32} : ∀ {k : List (Nat × Nat × Nat)}, uS I k → (∀ i, i < k.length → J 142 i = I 142 i ∧ J 143 i = I 143 i ∧ J 144 i = I 144 i) → uS J k
  | [], _, _ => trivial
  | q :: l, h, e => ⟨by rw [(e l.length (by simp)).1, (e l.length (by simp)).2.1, (e l.length (by simp)).2.2]; exact h.1, h.2.1, uS_fr h.2.2 (fun i hi => e i (by simp; omega))⟩
set_option maxRecDepth 8192 in
theorem em_len (ops : List Nat) (k : List (Nat × Nat × Nat)) : (em ops k).length = ops.length + k.length := by
  induction ops generalizing k with
  | nil => simp [em]
  | cons y l ih =>
    show (em l ((y, 0, 0) :: k)).length = _
    rw [ih]
    simp
    omega
set_option maxRecDepth 8192 in
theorem em_app (a b : List Nat) (k : List (Nat × Nat × Nat)) : em (a ++ b) k = em b (em a k) := by
  unfold em
  rw [List.foldl_append]
set_option maxRecDepth 8192 in
theorem cO_em {x : Nat} {ops : List Nat} : ∀ {k : List (Nat × Nat × Nat)} {s : List Nat}, (∀ y ∈ ops, y ≤ x ∧ y ≠ 203) → sp x s → cO x k (ops ++ s) = (em ops k, s) := by
  induction ops with
  | nil =>
    intro k s _ h
    cases s with
    | nil => rfl
    | cons y l =>
      show (if y = 203 ∨ x < y then (k, y :: l) else cO x ((y, 0, 0) :: k) l) = _
      rw [if_pos (h y l rfl)]
      rfl
  | cons y l ih =>
    intro k s h1 h2
    have hy := h1 y (by simp)
    show (if y = 203 ∨ x < y then _ else cO x ((y, 0, 0) :: k) (l ++ s)) = _
    rw [if_neg (by omega), ih (fun z hz => h1 z (by simp [hz])) h2]
    rfl
section FIL5
variable {I J : Nat → Nat → Int32} {L K : Nat → Nat → Int64} {r : Nat → Option Nat} {A : Nat → Nat → Nat} {n : Nat} {H : Nat → Nat → Nat → Nat} {t : Nat} {T : Nat → Nat} {P : Nat → Nat → Nat → Nat} {k : Nat → Bool} {B : Nat}
set_option maxRecDepth 8192 in
theorem r9_gives {q : Nat × Nat × Nat} {ks : List (Nat × Nat × Nat)} {s : List Nat} (h : rM I ks s) (hl : ks.length < 100) (hv : q.1 ≤ 202 ∧ q.2.1 < 200 ∧ q.2.2 < 10000) : ∃ J, f_X9_gives 130 (nI q.1) (nI q.2.1) (nI q.2.2) (pm I L r) = some (pm J L r) ∧ rM J (q :: ks) s ∧ r2 I J ∧ J 130 22 = I 130 22 := by
  obtain ⟨h1, h2, h3, h4, h5⟩ := h
  refine ⟨up2 (up2 (up2 (up2 I 142 ks.length (nI q.1)) 143 ks.length (nI q.2.1)) 144 ks.length (nI q.2.2)) 130 19 (nI (ks.length + 1)), ?_, ⟨?_, ?_, ⟨⟨?_, ?_, ?_⟩, hv, ?_⟩, ?_, h5⟩, ?_, ?_⟩
  · unfold f_X9_gives
    simp (disch := omega) only [plit, pR_130_16, pR_130_17, pR_130_18, pI_130_19, pP_130_19, pbs, h1, pS_142, pS_143, pS_144, up2_ne, nI_add]
  · rw [up2_eq]
    rfl
  · rw [up2_nj (by decide), up2_ne (by decide), up2_ne (by decide), up2_ne (by decide)]
    exact h2
  · rw [up2_ne (by decide), up2_ne (by decide), up2_ne (by decide), up2_eq]
  · rw [up2_ne (by decide), up2_ne (by decide), up2_eq]
  · rw [up2_ne (by decide), up2_eq]
  · refine uS_fr h3 (fun i hi => ⟨?_, ?_, ?_⟩)
    · rw [up2_ne (by decide), up2_ne (by decide), up2_ne (by decide), up2_nj (by omega)]
    · rw [up2_ne (by decide), up2_ne (by decide), up2_nj (by omega), up2_ne (by decide)]
    · rw [up2_ne (by decide), up2_nj (by omega), up2_ne (by decide), up2_ne (by decide)]
  · exact wS_fr h4 (fun i hi => by rw [up2_ne (by decide), up2_ne (by decide), up2_ne (by decide), up2_ne (by decide)])
  · exact r2_tr (r2_a (by omega)) (r2_tr (r2_a (by omega)) (r2_tr (r2_a (by omega)) (r2_f (by omega))))
  · rw [up2_nj (by decide), up2_ne (by decide), up2_ne (by decide), up2_ne (by decide)]
set_option maxRecDepth 8192 in
theorem r9_waits {x : Nat} {ks : List (Nat × Nat × Nat)} {s : List Nat} (hx : x < 300) (h : rM I ks s) (hl : s.length < 100) : ∃ J, f_X9_waits 130 (nI x) (pm I L r) = some (pm J L r) ∧ rM J ks (x :: s) ∧ r2 I J := by
  obtain ⟨h1, h2, h3, h4, h5⟩ := h
  refine ⟨up2 (up2 I 145 s.length (nI x)) 130 21 (nI (s.length + 1)), ?_, ⟨?_, ?_, ?_, ⟨?_, ?_⟩, ?_⟩, ?_⟩
  · unfold f_X9_waits
    simp (disch := omega) only [plit, pR_130_20, pI_130_21, pP_130_21, pbs, h2, pS_145, up2_ne, nI_add]
  · rw [up2_nj (by decide), up2_ne (by decide)]
    exact h1
  · rw [up2_eq]
    rfl
  · exact uS_fr h3 (fun i hi => ⟨by rw [up2_ne (by decide), up2_ne (by decide)], by rw [up2_ne (by decide), up2_ne (by decide)], by rw [up2_ne (by decide), up2_ne (by decide)]⟩)
  · rw [up2_ne (by decide), up2_eq]
  · exact wS_fr h4 (fun i hi => by rw [up2_ne (by decide), up2_nj (by omega)])
  · intro y hy
    rcases List.mem_cons.mp hy with e | e
    · omega
    · exact h5 y e
  · exact r2_tr (r2_a (by omega)) (r2_f (by omega))
set_option maxRecDepth 8192 in
theorem r9_pop {x : Nat} {ks : List (Nat × Nat × Nat)} {s : List Nat} (h : rM I ks (x :: s)) : rM (up2 I 130 21 (nI s.length)) ks s ∧ r2 I (up2 I 130 21 (nI s.length)) := by
  obtain ⟨h1, h2, h3, h4, h5⟩ := h
  refine ⟨⟨?_, up2_eq, ?_, ?_, fun y hy => h5 y (by simp [hy])⟩, r2_f (by omega)⟩
  · rw [up2_nj (by decide)]
    exact h1
  · exact uS_fr h3 (fun i hi => ⟨by rw [up2_ne (by decide)], by rw [up2_ne (by decide)], by rw [up2_ne (by decide)]⟩)
  · exact wS_fr h4.2 (fun i hi => by rw [up2_ne (by decide)])
set_option maxRecDepth 8192 in
theorem r9_comesOut {x : Nat} (hx : x ≤ 202) : ∀ (s : List Nat) (ks : List (Nat × Nat × Nat)) (F : Nat) (I : Nat → Nat → Int32), rM I ks s → ks.length + s.length ≤ 100 → s.length < F → ∃ J, f_X9_comesOut_b0 F 130 (nI x) (pm I L r) = some (pm J L r) ∧ rM J (cO x ks s).1 (cO x ks s).2 ∧ r2 I J ∧ J 130 22 = I 130 22
  | [], ks, F, I, h, hl, hF => by
    obtain ⟨F, rfl⟩ : ∃ G, F = G + 1 := ⟨F - 1, by omega⟩
    refine ⟨I, ?_, h, r2_me I, rfl⟩
    have h2 : I 130 21 = nI 0 := h.2.1
    have : (nI 0 ≤ nI 0) = True := by decide
    simp only [f_X9_comesOut_b0, plit, pI_130_21, pbs, h2, this, if_true]
  | y :: s, ks, F, I, h, hl, hF => by
    obtain ⟨F, rfl⟩ : ∃ G, F = G + 1 := ⟨F - 1, by omega⟩
    simp only [List.length_cons] at hl hF
    have h2 : I 130 21 = nI (s.length + 1) := h.2.1
    have hy := h.2.2.2.2 y (by simp)
    have h45 : I 145 s.length = nI y := h.2.2.2.1.1
    have n1 : (s.length + 1 ≤ 0) = False := by simp
    obtain ⟨p1, p2⟩ := r9_pop h
    unfold cO
    simp (disch := omega) only [f_X9_comesOut_b0, plit, pI_130_21, pbs, h2, pn_le, n1, if_false, pR_130_20, mI_def, mI_s, pA_145, h45, pn_eq, pn_lt]
    by_cases e1 : y = 203
    · rw [if_pos e1, if_pos (Or.inl e1)]
      exact ⟨I, rfl, h, r2_me I, rfl⟩
    · rw [if_neg e1]
      by_cases e2 : x < y
      · rw [if_pos e2, if_pos (Or.inr e2)]
        exact ⟨I, rfl, h, r2_me I, rfl⟩
      · rw [if_neg e2, if_neg (by omega)]
        obtain ⟨J, g1, g2, g3, g4⟩ := r9_gives (L := L) (r := r) (q := (y, 0, 0)) p1 (by omega) ⟨show y ≤ 202 from by omega, show 0 < 200 from by decide, show 0 < 10000 from by decide⟩
        simp only at g1
        obtain ⟨J2, f1, f2, f3, f4⟩ := r9_comesOut hx s ((y, 0, 0) :: ks) F J g2 (by simp; omega) (by omega)
        refine ⟨J2, ?_, f2, r2_tr p2 (r2_tr g3 f3), by rw [f4, g4, up2_nj (by decide)]⟩
        simp (disch := omega) only [pP_130_21, pbs, pR_130_20, pI_130_21, up2_eq, up2_ne, pA_145, h45, pO_130, g1]
        exact f1
end FIL5
