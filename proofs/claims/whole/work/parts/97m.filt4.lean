/-! the filter: the class applies it -/
def fE (t : Nat) (y : Nat × Bool) : Nat × Bool := (y.1, y.2 || decide (y.1 < t))
section FIL4
variable {I J : Nat → Nat → Int32} {L K : Nat → Nat → Int64} {r : Nat → Option Nat} {A : Nat → Nat → Nat} {n : Nat} {H : Nat → Nat → Nat → Nat} {t : Nat} {T : Nat → Nat} {P : Nat → Nat → Nat → Nat} {k : Nat → Bool} {B : Nat}
set_option maxRecDepth 8192 in
theorem x3_part (h : cT I t T) (ht : t ≤ 100) (hT : ∀ j, j < t → T j < 128) (hR : ph_rep I 1 A) (X : px_an I L A) (w : pa_wf A) {kF : Nat → Int32 → hb_M → Option (Int64 × hb_M)} {gF : Nat × Bool → (Nat × Bool) × (Nat → Bool)} {d : Nat} (hd : d < 100) (hk : d < 8 → ∀ s, s.1 ≤ t → fC I L r (fun σ => kF 99 (nI (d + 1)) σ) s (gF s)) (hg : ∀ s, fG t s (gF s).1) {s : Nat × Bool} (hp : s.1 ≤ t) : fC I L r (fun σ => f_X3_part kF 99 (nI d) σ) s (fP t T A gF d s) := by
  obtain ⟨x, x1, x2⟩ := x3_unit (r := r) h ht hT hR X w hd hk hg hp
  obtain ⟨z, z1, z2⟩ := x3_chain (L := L) (r := r) (F := fun n x i σ => f_X3_part_b9 kF n 99 (nI d) x (nI i) σ) (f := fun σ => f_X3_unit kF 99 (nI d) σ) (op := 38) (g := and) (g64 := fun a b => a &&& b) (u := fU t T A gF d) (fun p q => pb_and p q) h ht hT (by decide) (by
    intro n x i s hi hs
    have e1 := sx_skip (L := L) (r := r) h ht hT (c := 38) (s := s) (by decide) (by omega)
    have hn : (100 ≤ i) = False := eq_false (by omega)
    simp (disch := omega) only [f_X3_part_b9, plit, pn_le, hn, if_false, pR_99_2, pbs, pO_97, e1, bIn, pO_99, nI_add]
    cases tk t T s.1 s.2 38 <;> rfl) (by
    intro n x σ
    simp (disch := omega) only [f_X3_part_b9, plit, pn_le, Nat.le_refl, if_true]) (fun s hs => x3_unit (r := r) h ht hT hR X w hd hk hg hs) (fG_U hg) 99 1 hb_FU x (fU t T A gF d s) (by omega) (by unfold hb_FU; omega) ((fG_U hg s).2 hp) x2
  refine ⟨z, ?_, z2⟩
  have x1' : f_X3_unit kF 99 (nI d) (pm (ps I s) L r) = _ := x1
  show f_X3_part kF 99 (nI d) (pm (ps I s) L r) = _
  unfold f_X3_part
  simp only [plit, pO_99, x1', pbs]
  exact z1
set_option maxRecDepth 8192 in
theorem x3_filter (h : cT I t T) (ht : t ≤ 100) (hT : ∀ j, j < t → T j < 128) (hR : ph_rep I 1 A) (X : px_an I L A) (w : pa_wf A) {kF : Nat → Int32 → hb_M → Option (Int64 × hb_M)} {gF : Nat × Bool → (Nat × Bool) × (Nat → Bool)} {d : Nat} (hd : d < 100) (hk : d < 8 → ∀ s, s.1 ≤ t → fC I L r (fun σ => kF 99 (nI (d + 1)) σ) s (gF s)) (hg : ∀ s, fG t s (gF s).1) {s : Nat × Bool} (hp : s.1 ≤ t) : fC I L r (fun σ => f_X3_filter kF 99 (nI d) σ) s (fF t T A gF d s) := by
  obtain ⟨x, x1, x2⟩ := x3_part (r := r) h ht hT hR X w hd hk hg hp
  obtain ⟨z, z1, z2⟩ := x3_chain (L := L) (r := r) (F := fun n x i σ => f_X3_filter_b9 kF n 99 (nI d) x (nI i) σ) (f := fun σ => f_X3_part kF 99 (nI d) σ) (op := 124) (g := or) (g64 := fun a b => a ||| b) (u := fP t T A gF d) (fun p q => pb_or p q) h ht hT (by decide) (by
    intro n x i s hi hs
    have e1 := sx_skip (L := L) (r := r) h ht hT (c := 124) (s := s) (by decide) (by omega)
    have hn : (100 ≤ i) = False := eq_false (by omega)
    simp (disch := omega) only [f_X3_filter_b9, plit, pn_le, hn, if_false, pR_99_2, pbs, pO_97, e1, bIn, pO_99, nI_add]
    cases tk t T s.1 s.2 124 <;> rfl) (by
    intro n x σ
    simp (disch := omega) only [f_X3_filter_b9, plit, pn_le, Nat.le_refl, if_true]) (fun s hs => x3_part (r := r) h ht hT hR X w hd hk hg hs) (fG_P hg) 99 1 hb_FU x (fP t T A gF d s) (by omega) (by unfold hb_FU; omega) ((fG_P hg s).2 hp) x2
  refine ⟨z, ?_, z2⟩
  have x1' : f_X3_part kF 99 (nI d) (pm (ps I s) L r) = _ := x1
  show f_X3_filter kF 99 (nI d) (pm (ps I s) L r) = _
  unfold f_X3_filter
  simp only [plit, pO_99, x1', pbs]
  exact z1
set_option maxRecDepth 8192 in
theorem x3_filterN (h : cT I t T) (ht : t ≤ 100) (hT : ∀ j, j < t → T j < 128) (hR : ph_rep I 1 A) (X : px_an I L A) (w : pa_wf A) : ∀ n d, n + 1 + d = 10 → ∀ s, s.1 ≤ t → fC I L r (fun σ => f_X3_filterN (n + 1) 99 (nI d) σ) s (fN t T A (n + 1) d s) := by
  intro n
  induction n with
  | zero =>
    intro d hd s hs
    exact x3_filter (kF := f_X3_filterN 0) h ht hT hR X w (by omega) (fun h8 => by omega) (fG_Nn 0 (d + 1)) hs
  | succ n ih =>
    intro d hd s hs
    exact x3_filter (kF := f_X3_filterN (n + 1)) h ht hT hR X w (by omega) (fun h8 s hs => ih (d + 1) (by omega) s hs) (fG_Nn (n + 1) (d + 1)) hs
set_option maxRecDepth 8192 in
theorem x3_apply (hC : cS I L r A n H t T P k B) (hA : aS A n H t T P k B) : ∃ J K x, f_X3_apply 99 (pm I L r) = some (x, pm J K r) ∧ cS J K r A n H t T P k B ∧ px_an J K A ∧ (∀ a, 130 ≤ a → J a = I a ∧ K a = L a) ∧ J 97 2 = nI (fN t T A 10 0 (0, false)).1.1 ∧ J 97 3 = bI (fE t (fN t T A 10 0 (0, false)).1).2 ∧ ((fE t (fN t T A 10 0 (0, false)).1).2 = false → x = hb_mk (fN t T A 10 0 (0, false)).2) := by
  obtain ⟨aB, w, a2, a3, a4, ht, hT, a7⟩ := id hA
  obtain ⟨J, K, e1, e2, e3, e4⟩ := cS_refresh hC hA
  obtain ⟨x, x1, x2⟩ := x3_filterN (r := r) e2.2.2.2.1 ht hT e2.1 e3 w 9 0 (by omega) (0, false) (Nat.zero_le t)
  have hle := (fG_Nn (t := t) (T := T) (A := A) 10 0 (0, false)).2 (Nat.zero_le t)
  obtain ⟨y, hy⟩ : ∃ y, y = fN t T A 10 0 (0, false) := ⟨_, rfl⟩
  rw [show 9 + 1 = 10 from rfl, ← hy] at x1 x2
  rw [← hy] at hle
  rw [← hy]
  have x1' : f_X3_filterN 10 99 (nI 0) (pm (ps J (0, false)) K r) = some (x, pm (ps J y.1) K r) := x1
  have e5 := x7_atEnd (L := K) (r := r) e2.2.2.2.1 ht (p := y.1.1) (f := y.1.2) (by omega)
  rw [show pt J y.1.1 y.1.2 = ps J y.1 from rfl] at e5
  have hcs : ∀ s : Nat × Bool, cS (ps J s) K r A n H t T P k B := by
    intro s
    obtain ⟨c1, c2, ⟨π, c3⟩, c4, c5⟩ := e2
    refine ⟨ph_fr c1 (fun a _ _ => ps_a (by omega)), cV_fr c2 (fun a _ => ⟨ps_a (by omega), rfl⟩), ⟨π, cH_fr c3 (fun _ _ => rfl) (fun a _ _ => ps_a (by omega))⟩, ⟨?_, fun j hj => ?_⟩, cP_fr c5 (fun a _ _ => ps_a (by omega))⟩
    · show pt J s.1 s.2 97 1 = _
      rw [pt_v1]
      exact c4.1
    · rw [ps_a (by decide)]
      exact c4.2 j hj
  have hpx : ∀ s : Nat × Bool, px_an (ps J s) K A := fun s => px_fr e3 (fun a _ _ _ => ⟨ps_a (by omega), rfl⟩)
  have hfr : ∀ s : Nat × Bool, ∀ a, 130 ≤ a → ps J s a = I a ∧ K a = L a := fun s a ha => ⟨by rw [ps_a (by omega)]; exact (e4 a (by omega)).1, (e4 a (by omega)).2⟩
  have hfl : f_X7_fail 97 (pm (ps J y.1) K r) = some (pm (ps J (y.1.1, true)) K r) := x7_fail
  refine ⟨ps J (fE t y.1), K, x, ?_, hcs _, hpx _, hfr _, ps_v2 _, ps_v3 _, fun e => x2 ?_⟩
  · unfold f_X3_apply
    simp only [plit, pR_99_1, pR_99_2, pbs, pO_12, e1, pO_97, x7_begin, pO_99]
    rw [show pt J 0 false = ps J (0, false) from rfl, x1', pbs]
    simp only [pR_99_2, pbs, pO_97, e5, bIn]
    by_cases e : t ≤ y.1.1
    · rw [decide_eq_true e]
      have : fE t y.1 = y.1 := by unfold fE; rw [decide_eq_false (show ¬ y.1.1 < t from by omega), Bool.or_false]
      rw [this]
      rfl
    · rw [decide_eq_false e]
      have : fE t y.1 = (y.1.1, true) := by unfold fE; rw [decide_eq_true (show y.1.1 < t from by omega), Bool.or_true]
      rw [this]
      simp only [if_true, hfl, pbs]
  · unfold fE at e
    simp only [Bool.or_eq_false_iff] at e
    exact e.1
end FIL4
