/-! the reference: what changes its rows -/
/-! a loop whose states are known ahead -/
set_option maxRecDepth 8192 in
theorem pm_seq {α β : Type} (F : Nat → α → Nat → Option β) (s : Nat → α) (m : Nat) {out : Option β} (hstep : ∀ n i, i < m → F (n + 1) (s i) i = F n (s (i + 1)) (i + 1)) (hend : ∀ n, F (n + 1) (s m) m = out) (n : Nat) (h : m < n) : F n (s 0) 0 = out := by
  have key : ∀ k, k ≤ m → F n (s 0) 0 = F (n - k) (s k) k := by
    intro k
    induction k with
    | zero => intro _; rfl
    | succ k ih =>
      intro hk
      rw [ih (by omega), show n - k = (n - (k + 1)) + 1 from by omega, hstep _ _ (by omega)]
  rw [key m (Nat.le_refl m), show n - m = (n - m - 1) + 1 from by omega, hend]
set_option maxRecDepth 8192 in
theorem pr_one {N : Nat → Int32} {A : Nat → Nat → Nat} (hN : pr_row N A) {M : Nat → Int32} {B : Nat → Nat → Nat} {o : Nat} (hc : ∀ j, j < 31 → M j = N j) (h31 : M 31 = nI (B 40 1)) (b40 : B 40 0 = A 40 0) (b41 : ∀ c, B 41 c = A 41 c) (b42 : ∀ c, B 42 c = A 42 c) (b43 : ∀ c, B 43 c = A 43 c) (hoth : ∀ p, p < 40 → p ≠ o → (∀ k, B p k = A p k) ∧ ∀ k, k < 13 → M (32 + 13 * p + k) = N (32 + 13 * p + k)) (hown : (∀ k, k < 5 → M (32 + 13 * o + k) = nI (B o k)) ∧ ∀ s, s < 8 → M (32 + 13 * o + 5 + s) = mI (B o (5 + s))) : pr_row M B := by
  refine ⟨by rw [hc 0 (by decide), b40]; exact hN.1, h31, ?_, ?_⟩
  · intro c hc9
    rw [hc (1 + c) (by omega), hc (11 + c) (by omega), hc (21 + c) (by omega), b41, b42, b43]
    exact hN.2.2.1 c hc9
  · intro p hp
    by_cases e : p = o
    · subst e
      exact hown
    · obtain ⟨q, d⟩ := hoth p hp e
      obtain ⟨r1, r2⟩ := hN.2.2.2 p hp
      refine ⟨fun k hk => by rw [d k (by omega), q k]; exact r1 k hk, fun s hs => ?_⟩
      rw [show 32 + 13 * p + 5 + s = 32 + 13 * p + (5 + s) from by omega, d (5 + s) (by omega), q (5 + s), ← r2 s hs, show 32 + 13 * p + 5 + s = 32 + 13 * p + (5 + s) from by omega]
section R93
variable {I : Nat → Nat → Int32} {L : Nat → Nat → Int64} {r : Nat → Option Nat} {A : Nat → Nat → Nat}
def pv_new (I : Nat → Nat → Int32) (o : Nat) (n : Int32) (g s : Nat) : Nat → Nat → Int32 := pu_es (up2 (up2 (up2 (up2 (up2 (up2 I 131 (32 + 13 * o + 0) n) 131 31 (n + nI 1)) 131 (32 + 13 * o + 1) (nI g)) 131 (32 + 13 * o + 2) (nI s)) 131 (32 + 13 * o + 3) (nI 0)) 131 (32 + 13 * o + 4) (nI 0)) 131 (32 + 13 * o + 5) (32 + 13 * o + 5 + 8)
set_option maxRecDepth 8192 in
theorem pu_es_up (I : Nat → Nat → Int32) (a lo k : Nat) : up2 (pu_es I a lo (lo + k)) a (lo + k) (-nI 1) = pu_es I a lo (lo + (k + 1)) := by
  funext b j
  unfold up2 pu_es
  by_cases e : b = a
  · by_cases e2 : j = lo + k
    · rw [if_pos ⟨e, e2⟩, if_pos ⟨e, by omega, by omega⟩]
    · rw [if_neg (by omega)]
      by_cases e3 : lo ≤ j ∧ j < lo + k
      · rw [if_pos ⟨e, e3⟩, if_pos ⟨e, by omega, by omega⟩]
      · rw [if_neg (by omega), if_neg (by omega)]
  · rw [if_neg (by omega), if_neg (by omega), if_neg (by omega)]
set_option maxRecDepth 8192 in
theorem pu_es_0 (I : Nat → Nat → Int32) (a lo : Nat) : pu_es I a lo (lo + 0) = I := by
  funext b j
  unfold pu_es
  rw [if_neg (by omega)]
set_option maxRecDepth 8192 in
theorem r9_creates (hN : pr_row (I 131) A) (w : pa_wf A) {o g s : Nat} (ho : o < 40) (h0 : A o 0 = 0) (hm : ∀ p, p < o → A p 0 ≠ 0) : f_X9_creates 130 (nI g) (nI s) (pm I L r) = some (nI o, pm (pv_new I o (nI (A 40 1)) g s) L r) := by
  have e31 := hN.2.1
  have hlast : ∀ J : Nat → Nat → Int32, f_X9_creates_b96 hb_FU 130 (nI o) (0 : Int32) (pm J L r) = some (nI o, pm (pu_es J 131 (32 + 13 * o + 5) (32 + 13 * o + 5 + 8)) L r) := by
    intro J
    have hl := pm_seq (fun n a i => f_X9_creates_b96 n 130 (nI o) (nI i) (pm a L r)) (fun i => pu_es J 131 (32 + 13 * o + 5) (32 + 13 * o + 5 + i)) 8 (out := some (nI o, pm (pu_es J 131 (32 + 13 * o + 5) (32 + 13 * o + 5 + 8)) L r)) (by
      intro n i hi
      simp (disch := omega) only [f_X9_creates_b96, pbs, pO_130, pR_130_0, pA_131, pS_131, plit, nI_add, pk_mul, pn_le, pn_lt, if_true, if_false, reduceIte, r9_at, pu_es_up]
      rw [if_neg (show ¬ 8 ≤ i from by omega)]) (by
      intro n
      rw [f_X9_creates_b96, if_pos (by decide)]) hb_FU (by decide)
    rw [pu_es_0] at hl
    exact hl
  unfold f_X9_creates
  exact pm_loop (fun n (_ : Unit) i => f_X9_creates_b2 n 130 (nI g) (nI s) (nI i) (pm I L r)) (fun _ a => a) o (out := fun _ => some (nI o, pm (pv_new I o (nI (A 40 1)) g s) L r)) (by
    intro n a i hi
    have hal : pa_al A i = true := by simp [pa_al, hm i hi]
    rw [f_X9_creates_b2]
    simp only [pO_130, r9_isObj hN w (show i < 40 from by omega), hal, pbs, plit, bIn, Bool.true_eq_false, if_false, nI_add]) (by
    intro n a
    have hal : pa_al A o = false := by simp [pa_al, h0]
    rw [f_X9_creates_b2]
    simp (disch := omega) only [pbs, pO_130, pR_130_0, pA_131, pS_131, plit, nI_add, pk_mul, pn_le, pn_lt, if_true, if_false, reduceIte, r9_isObj hN w ho, hal, bIn, r9_at, e31, up2_nj, up2_eq]
    rw [← plit 0, hlast]
    unfold pv_new
    simp only [nI_add, plit]) () hb_FU (Nat.lt_trans ho (by decide))
set_option maxRecDepth 8192 in
theorem pv_new_ne {o g s a : Nat} {n : Int32} (h : a ≠ 131) : pv_new I o n g s a = I a := by
  funext j
  unfold pv_new
  simp (disch := omega) only [pu_es_ne, up2_ne]
set_option maxRecDepth 8192 in
theorem pr_new (hN : pr_row (I 131) A) {o g s : Nat} (ho : o < 40) : pr_row (pv_new I o (nI (A 40 1)) g s 131) (pa_new A o g s) := by
  have e40 : (40 : Nat) ≠ o := by omega
  have e41 : (41 : Nat) ≠ o := by omega
  have e42 : (42 : Nat) ≠ o := by omega
  have e43 : (43 : Nat) ≠ o := by omega
  have hown : ∀ k, pa_new A o g s o k = if k = 0 then A 40 1 else if k = 1 then g else if k = 2 then s else 0 := fun k => by simp [pa_new]
  unfold pv_new
  refine pr_one hN (o := o) ?_ ?_ ?_ ?_ ?_ ?_ ?_ ?_
  · intro j hj
    simp (disch := omega) only [up2_nj, pu_es_out]
  · simp (disch := omega) only [up2_nj, pu_es_out, up2_eq, nI_add]
    simp [pa_new, e40]
  · simp [pa_new, e40]
  · intro c
    simp [pa_new, e41]
  · intro c
    simp [pa_new, e42]
  · intro c
    simp [pa_new, e43]
  · intro p hp e
    refine ⟨fun k => ?_, fun k hk => ?_⟩
    · have : p ≠ 40 := by omega
      simp [pa_new, e, this]
    · simp (disch := omega) only [up2_nj, pu_es_out]
  · refine ⟨fun k hk => ?_, fun s9 hs9 => ?_⟩
    · rw [hown]
      match k, hk with
      | 0, _ => simp (disch := omega) only [up2_nj, pu_es_out, up2_eq]; rfl
      | 1, _ => simp (disch := omega) only [up2_nj, pu_es_out, up2_eq]; rfl
      | 2, _ => simp (disch := omega) only [up2_nj, pu_es_out, up2_eq]; rfl
      | 3, _ => simp (disch := omega) only [up2_nj, pu_es_out, up2_eq]; rfl
      | 4, _ => simp (disch := omega) only [up2_nj, pu_es_out, up2_eq]; rfl
    · have q0 : ¬ 5 + s9 = 0 := by omega
      have q1 : ¬ 5 + s9 = 1 := by omega
      have q2 : ¬ 5 + s9 = 2 := by omega
      simp (disch := omega) only [pu_es_in, hown, q0, q1, q2, if_false, mI_0]
set_option maxRecDepth 8192 in
theorem pr_set (hN : pr_row (I 131) A) {o s v : Nat} (ho : o < 40) (hs : s < 8) : pr_row (up2 I 131 (32 + 13 * o + 5 + s) (mI v) 131) (up2 A o (5 + s) v) := by
  obtain ⟨r1, r2⟩ := hN.2.2.2 o ho
  refine pr_one hN (o := o) ?_ ?_ (up2_ne (by omega)) (fun c => up2_ne (by omega)) (fun c => up2_ne (by omega)) (fun c => up2_ne (by omega)) ?_ ?_
  · intro j hj
    simp (disch := omega) only [up2_nj]
  · rw [up2_nj (by omega), up2_ne (by omega)]
    exact hN.2.1
  · intro p hp e
    refine ⟨fun k => up2_ne e, fun k hk => ?_⟩
    simp (disch := omega) only [up2_nj]
  · refine ⟨fun k hk => ?_, fun q hq => ?_⟩
    · simp (disch := omega) only [up2_nj, r1 k hk]
    · by_cases e : q = s
      · subst e
        rw [up2_eq, up2_eq]
      · simp (disch := omega) only [up2_nj, r2 q hq]
set_option maxRecDepth 8192 in
theorem pr_root (hN : pr_row (I 131) A) {o v : Nat} (ho : o < 40) : pr_row (up2 I 131 (32 + 13 * o + 4) (nI v) 131) (up2 A o 4 v) := by
  obtain ⟨r1, r2⟩ := hN.2.2.2 o ho
  refine pr_one hN (o := o) ?_ ?_ (up2_ne (by omega)) (fun c => up2_ne (by omega)) (fun c => up2_ne (by omega)) (fun c => up2_ne (by omega)) ?_ ?_
  · intro j hj
    simp (disch := omega) only [up2_nj]
  · rw [up2_nj (by omega), up2_ne (by omega)]
    exact hN.2.1
  · intro p hp e
    refine ⟨fun k => up2_ne e, fun k hk => ?_⟩
    simp (disch := omega) only [up2_nj]
  · refine ⟨fun k hk => ?_, fun q hq => ?_⟩
    · by_cases e : k = 4
      · subst e
        rw [up2_eq, up2_eq]
      · simp (disch := omega) only [up2_nj, r1 k hk]
    · simp (disch := omega) only [up2_nj, r2 q hq]
set_option maxRecDepth 8192 in
theorem pr_len (hN : pr_row (I 131) A) {o n : Nat} (ho : o < 40) (hn : n ≤ 8) : pr_row (pu_es (up2 I 131 (32 + 13 * o + 2) (nI n)) 131 (32 + 13 * o + 5 + n) (32 + 13 * o + 5 + 8) 131) (pa_len A o n) := by
  obtain ⟨r1, r2⟩ := hN.2.2.2 o ho
  have hoth : ∀ p k, p ≠ o → pa_len A o n p k = A p k := fun p k e => by simp [pa_len, e]
  have hown : ∀ k, pa_len A o n o k = if k = 2 then n else if 5 + n ≤ k then 0 else A o k := fun k => by simp [pa_len]
  refine pr_one hN (o := o) ?_ ?_ (hoth _ _ (by omega)) (fun c => hoth _ _ (by omega)) (fun c => hoth _ _ (by omega)) (fun c => hoth _ _ (by omega)) ?_ ?_
  · intro j hj
    simp (disch := omega) only [up2_nj, pu_es_out]
  · rw [pu_es_out (by omega), up2_nj (by omega), hoth _ _ (by omega)]
    exact hN.2.1
  · intro p hp e
    refine ⟨fun k => hoth p k e, fun k hk => ?_⟩
    simp (disch := omega) only [up2_nj, pu_es_out]
  · refine ⟨fun k hk => ?_, fun q hq => ?_⟩
    · rw [hown]
      by_cases e : k = 2
      · subst e
        rw [pu_es_out (by omega), up2_eq, if_pos rfl]
      · rw [if_neg e, if_neg (by omega)]
        simp (disch := omega) only [pu_es_out, up2_nj, r1 k hk]
    · rw [hown, if_neg (by omega)]
      by_cases e : n ≤ q
      · rw [if_pos (by omega), pu_es_in (by omega) (by omega), mI_0]
      · rw [if_neg (by omega), pu_es_out (by omega), up2_nj (by omega), r2 q hq]
def pv_cls (I : Nat → Nat → Int32) (c : Nat) (x y z : Int32) : Nat → Nat → Int32 := up2 (up2 (up2 (up2 I 131 0 (nI (c + 1))) 131 (1 + c) x) 131 (11 + c) y) 131 (21 + c) z
set_option maxRecDepth 8192 in
theorem pr_cls (hN : pr_row (I 131) A) (w : pa_wf A) {c f d : Nat} (hlt : A 40 0 < 10) : pr_row (pv_cls I (A 40 0) (nI c) (nI f) (nI d) 131) (pa_cls A c f d) := by
  unfold pv_cls
  have h40 : pa_cls A c f d 40 0 = A 40 0 + 1 := by simp [pa_cls]
  have h401 : pa_cls A c f d 40 1 = A 40 1 := by simp [pa_cls]
  refine ⟨?_, ?_, ?_, ?_⟩
  · simp (disch := omega) only [up2_nj, up2_eq, h40]
  · simp (disch := omega) only [up2_nj, h401]
    exact hN.2.1
  · intro j hj
    by_cases e : j = A 40 0
    · subst e
      have h1 : pa_cls A c f d 41 (A 40 0) = c + 1 := by simp [pa_cls]
      have h2 : pa_cls A c f d 42 (A 40 0) = f := by simp [pa_cls]
      have h3 : pa_cls A c f d 43 (A 40 0) = d := by simp [pa_cls]
      rw [h1, h2, h3, mI_s]
      refine ⟨?_, ?_, ?_⟩
      · simp (disch := omega) only [up2_nj, up2_eq]
      · simp (disch := omega) only [up2_nj, up2_eq]
      · simp (disch := omega) only [up2_eq]
    · have h1 : pa_cls A c f d 41 j = A 41 j := by simp [pa_cls, e]
      have h2 : pa_cls A c f d 42 j = A 42 j := by simp [pa_cls, e]
      have h3 : pa_cls A c f d 43 j = A 43 j := by simp [pa_cls, e]
      have hr := hN.2.2.1 j hj
      rw [h1, h2, h3]
      refine ⟨?_, ?_, ?_⟩
      · simp (disch := omega) only [up2_nj, hr.1]
      · simp (disch := omega) only [up2_nj, hr.2.1]
      · simp (disch := omega) only [up2_nj, hr.2.2]
  · intro o ho
    obtain ⟨r1, r2⟩ := hN.2.2.2 o ho
    refine ⟨fun k hk => ?_, fun s hs => ?_⟩
    · rw [pa_cls_obj ho]
      simp (disch := omega) only [up2_nj, r1 k hk]
    · rw [pa_cls_obj ho]
      simp (disch := omega) only [up2_nj, r2 s hs]
/-- a stretch of a row -/
def pu_rng (I : Nat → Nat → Int32) (a lo n : Nat) (f : Nat → Int32) : Nat → Nat → Int32 := fun b j => if b = a ∧ lo ≤ j ∧ j < lo + n then f (j - lo) else I b j
set_option maxRecDepth 8192 in
theorem pu_rng_up (I : Nat → Nat → Int32) (a lo n : Nat) (f : Nat → Int32) : up2 (pu_rng I a lo n f) a (lo + n) (f n) = pu_rng I a lo (n + 1) f := by
  funext b j
  unfold up2 pu_rng
  by_cases e1 : b = a
  · by_cases e2 : j = lo + n
    · rw [if_pos ⟨e1, e2⟩, if_pos ⟨e1, by omega, by omega⟩, e2, Nat.add_sub_cancel_left]
    · rw [if_neg (by omega)]
      by_cases e3 : lo ≤ j ∧ j < lo + n
      · rw [if_pos ⟨e1, e3⟩, if_pos ⟨e1, by omega, by omega⟩]
      · rw [if_neg (by omega), if_neg (by omega)]
  · rw [if_neg (by omega), if_neg (by omega), if_neg (by omega)]
set_option maxRecDepth 8192 in
theorem pu_rng_0 (I : Nat → Nat → Int32) (a lo : Nat) (f : Nat → Int32) : pu_rng I a lo 0 f = I := by
  funext b j
  unfold pu_rng
  rw [if_neg (by omega)]
set_option maxRecDepth 8192 in
theorem pu_rng_ne {I : Nat → Nat → Int32} {a lo n b j : Nat} {f : Nat → Int32} (h : b ≠ a) : pu_rng I a lo n f b j = I b j := by simp [pu_rng, h]
set_option maxRecDepth 8192 in
theorem pu_rng_out {I : Nat → Nat → Int32} {a lo n b j : Nat} {f : Nat → Int32} (h : j < lo ∨ lo + n ≤ j) : pu_rng I a lo n f b j = I b j := by
  unfold pu_rng
  rw [if_neg (by omega)]
set_option maxRecDepth 8192 in
theorem pu_rng_in {I : Nat → Nat → Int32} {a lo n j : Nat} {f : Nat → Int32} (h : lo ≤ j) (h2 : j < lo + n) : pu_rng I a lo n f a j = f (j - lo) := by
  unfold pu_rng
  rw [if_pos ⟨rfl, h, h2⟩]
/-- a row is kept behind m others; the oldest of five goes first -/
def pv_kp (J : Nat → Nat → Int32) (x m : Nat) : Nat → Nat → Int32 := up2 (pu_rng J 132 (552 * m) 552 (J x)) 130 3 (nI (m + 1))
def pv_sh (I : Nat → Nat → Int32) : Nat → Nat → Int32 := up2 (pu_rng I 132 0 2208 (fun k => I 132 (k + 552))) 130 3 (nI 4)
def pv_keep (I : Nat → Nat → Int32) (x n : Nat) : Nat → Nat → Int32 := if n = 5 then pv_kp (pv_sh I) x 4 else pv_kp I x n
set_option maxRecDepth 8192 in
theorem r9_keeps {x n : Nat} (hx : x = 131 ∨ x = 133) (hn : I 130 3 = nI n) (hn5 : n ≤ 5) : f_X9_keeps 130 x (pm I L r) = some (pm (pv_keep I x n) L r) := by
  have hA : ∀ (J : Nat → Nat → Int32) (j : Nat), j < 552 → hb_iald (pm J L r) x (nI j) = some (J x j) := by
    intro J j hj
    rcases hx with e | e
    · subst e; exact pA_131 hj
    · subst e; exact pA_133 hj
  have hx2 : x ≠ 132 ∧ x ≠ 130 := by omega
  have hlast : ∀ (J : Nat → Nat → Int32) (m : Nat), m ≤ 4 → J 130 3 = nI m → f_X9_keeps_b49 130 x (pm J L r) = some (pm (pv_kp J x m) L r) := by
    intro J m hm h3
    unfold f_X9_keeps_b49
    have hl := pm_seq (fun n a i => f_X9_keeps_b51 n 130 x (nI i) (pm a L r)) (fun i => pu_rng J 132 (552 * m) i (J x)) 552 (out := some (pm (pv_kp J x m) L r)) (by
      intro n i hi
      simp (disch := omega) only [f_X9_keeps_b51, pbs, pR_130_1, pI_130_3, plit, pn_le, hA, pu_rng_ne, h3, pk_mul, nI_add, pS_132, pu_rng_up]
      rw [if_neg (show ¬ 552 ≤ i from by omega)]) (by
      intro n
      simp (disch := omega) only [f_X9_keeps_b51, pbs, pI_130_3, pP_130_3, plit, pn_le, pu_rng_ne, h3, nI_add, Nat.le_refl, if_true]
      rfl) hb_FU (by decide)
    simp only [pu_rng_0] at hl
    exact hl
  unfold f_X9_keeps pv_keep
  simp (disch := omega) only [pbs, pI_130_3, plit, hn, pn_eq]
  by_cases e5 : n = 5
  · rw [if_pos e5, if_pos e5]
    have hl := pm_seq (fun n a i => f_X9_keeps_b10 n 130 x (nI i) (pm a L r)) (fun i => pu_rng I 132 0 i (fun k => I 132 (k + 552))) 2208 (out := some (pm (pv_kp (pv_sh I) x 4) L r)) (by
      intro n i hi
      have hu := pu_rng_up I 132 0 i (fun k => I 132 (k + 552))
      rw [Nat.zero_add] at hu
      simp (disch := omega) only [f_X9_keeps_b10, pbs, pR_130_1, plit, pn_le, nI_add, pA_132, pS_132, pu_rng_out, hu]
      rw [if_neg (show ¬ 2208 ≤ i from by omega)]) (by
      intro k
      simp (disch := omega) only [f_X9_keeps_b10, pbs, pI_130_3, pP_130_3, plit, pn_le, pu_rng_ne, hn, Nat.le_refl, if_true, pn_pred]
      rw [hlast _ 4 (by decide) (by rw [up2_eq, e5]), e5]
      rfl) hb_FU (by decide)
    simp only [pu_rng_0] at hl
    exact hl
  · rw [if_neg e5, if_neg e5, hlast I n (by omega) hn]
set_option maxRecDepth 8192 in
theorem pv_kp_ne {J : Nat → Nat → Int32} {x m a : Nat} (h : a ≠ 132) (h2 : a ≠ 130) : pv_kp J x m a = J a := by
  funext j
  unfold pv_kp
  rw [up2_ne h2, pu_rng_ne h]
set_option maxRecDepth 8192 in
theorem pv_sh_ne {I : Nat → Nat → Int32} {a : Nat} (h : a ≠ 132) (h2 : a ≠ 130) : pv_sh I a = I a := by
  funext j
  unfold pv_sh
  rw [up2_ne h2, pu_rng_ne h]
set_option maxRecDepth 8192 in
theorem pv_keep_ne {x n a : Nat} (h : a ≠ 132) (h2 : a ≠ 130) : pv_keep I x n a = I a := by
  unfold pv_keep
  split
  · rw [pv_kp_ne h h2, pv_sh_ne h h2]
  · rw [pv_kp_ne h h2]
set_option maxRecDepth 8192 in
theorem pv_keep_f {x n j : Nat} (h : j ≠ 3) : pv_keep I x n 130 j = I 130 j := by
  unfold pv_keep pv_kp pv_sh
  split
  · simp (disch := omega) only [up2_nj, pu_rng_ne]
  · simp (disch := omega) only [up2_nj, pu_rng_ne]
end R93
