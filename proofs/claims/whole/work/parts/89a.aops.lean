/-! what changes a heap, as plain numbers; each leaves it sound -/
def pa_new (A : Nat → Nat → Nat) (o g s : Nat) : Nat → Nat → Nat := fun a k => if a = o then (if k = 0 then A 40 1 else if k = 1 then g else if k = 2 then s else 0) else if a = 40 ∧ k = 1 then A 40 1 + 1 else A a k
def pa_len (A : Nat → Nat → Nat) (o n : Nat) : Nat → Nat → Nat := fun a k => if a = o then (if k = 2 then n else if 5 + n ≤ k then 0 else A a k) else A a k
def pa_cls (A : Nat → Nat → Nat) (c f d : Nat) : Nat → Nat → Nat := fun a k => if a = 40 ∧ k = 0 then A 40 0 + 1 else if a = 41 ∧ k = A 40 0 then c + 1 else if a = 42 ∧ k = A 40 0 then f else if a = 43 ∧ k = A 40 0 then d else A a k
/-- all but p go; the others grow -/
def pa_kp (A : Nat → Nat → Nat) (p : Nat → Bool) : Nat → Nat → Nat := fun a k => if a < 40 then (if p a = false then (if k = 0 then 0 else A a k) else if A a 0 = 0 then A a k else if k = 3 then (if A a 3 < 99 then A a 3 + 1 else A a 3) else if A a 1 = 11 ∧ k = 5 ∧ A a 5 ≠ 0 ∧ p (A a 5 - 1) = false then 0 else A a k) else A a k
section PAO
variable {A B : Nat → Nat → Nat}
set_option maxRecDepth 8192 in
theorem pa_s_cong (h1 : ∀ c, B 41 c = A 41 c) {q : Nat} (h2 : ∀ c, B q c = A q c) : ∀ n k, pa_s B q n k = pa_s A q n k
  | 0, _ => rfl
  | _ + 1, 0 => rfl
  | n + 1, k + 1 => by rw [pa_s, pa_s, h2, h1, pa_s_cong h1 h2 n]
set_option maxRecDepth 8192 in
theorem pa_fo_cong (h1 : ∀ c, B 41 c = A 41 c) (h2 : ∀ c, B 42 c = A 42 c) (c : Nat) : pa_fo B c = pa_fo A c := pa_s_cong h1 h2 _ _
set_option maxRecDepth 8192 in
theorem pa_da_cong (h1 : ∀ c, B 41 c = A 41 c) (h2 : ∀ c, B 43 c = A 43 c) (c : Nat) : pa_da B c = pa_da A c := pa_s_cong h1 h2 _ _
set_option maxRecDepth 8192 in
theorem pa_sc_cong (h1 : ∀ c, B 41 c = A 41 c) (h2 : ∀ c, B 42 c = A 42 c) (h3 : ∀ c, B 43 c = A 43 c) (c : Nat) : pa_sc B c = pa_sc A c := by
  unfold pa_sc
  rw [pa_fo_cong h1 h2, pa_da_cong h1 h3]
set_option maxRecDepth 8192 in
theorem pa_so_cong (h1 : ∀ c, B 41 c = A 41 c) (h2 : ∀ c, B 42 c = A 42 c) (h3 : ∀ c, B 43 c = A 43 c) {o : Nat} (h4 : B o 1 = A o 1) (h5 : B o 2 = A o 2) : pa_so B o = pa_so A o := by
  unfold pa_so
  rw [h4, h5, pa_sc_cong h1 h2 h3]
/-! one object is changed, or made -/
set_option maxRecDepth 8192 in
theorem pa_wf_one (w : pa_wf A) {o : Nat} (ho : o < 40) (h40 : B 40 0 = A 40 0) (h41 : ∀ c, B 41 c = A 41 c) (h42 : ∀ c, B 42 c = A 42 c) (h43 : ∀ c, B 43 c = A 43 c) (hn : A 40 1 ≤ B 40 1) (hn2 : B 40 1 < 2 ^ 30) (hoth : ∀ p, p < 40 → p ≠ o → ∀ k, B p k = A p k) (hs : B o 0 < B 40 1) (h0 : B o 0 ≠ 0) (hu : ∀ p, p < 40 → p ≠ o → A p 0 ≠ 0 → A p 0 ≠ B o 0) (hok : pa_ok B o) : pa_wf B := by
  refine ⟨⟨by rw [h40]; exact w.1.1, by rw [h40]; exact w.1.2.1, by have := w.1.2.2.1; omega, hn2⟩, ?_, ?_, ?_, ?_⟩
  · intro c hc
    rw [h40] at hc
    rw [h41, h42, h43, pa_fo_cong h41 h42]
    exact w.2.1 c hc
  · intro p hp
    by_cases e : p = o
    · rw [e]; exact hs
    · rw [hoth p hp e]
      have := w.2.2.1 p hp
      omega
  · intro p hp ha
    by_cases e : p = o
    · rw [e]; exact hok
    · have hq := hoth p hp e
      rw [hq] at ha
      obtain ⟨h1, h2, h3, h4⟩ := w.2.2.2.1 p hp ha
      unfold pa_ok
      simp only [hq, h40, pa_fo_cong h41 h42]
      refine ⟨h1, h2, h3, ?_⟩
      intro s hs9
      obtain ⟨a1, a2, a3⟩ := h4 s hs9
      refine ⟨a1, a2, ?_⟩
      intro hne
      by_cases e2 : A p (5 + s) - 1 = o
      · rw [e2]; exact h0
      · rw [hoth _ (by omega) e2]
        exact a3 hne
  · intro p q hp hq ha he
    by_cases e : p = o
    · by_cases e2 : q = o
      · rw [e, e2]
      · rw [e] at he
        rw [hoth q hq e2] at he
        exact absurd he.symm (hu q hq e2 (by rw [← he]; exact h0))
    · rw [hoth p hp e] at ha he
      by_cases e2 : q = o
      · rw [e2] at he
        exact absurd he (hu p hp e ha)
      · rw [hoth q hq e2] at he
        exact w.2.2.2.2 p q hp hq ha he
set_option maxRecDepth 8192 in
theorem pa_wf_new (w : pa_wf A) {o g s : Nat} (ho : o < 40) (hn : A 40 1 + 1 < 2 ^ 30) (hg : g < A 40 0 ∧ s = pa_fo A g ∨ g = 10 ∧ s ≤ 8 ∨ g = 11 ∧ s = 1) : pa_wf (pa_new A o g s) := by
  have e40 : (40 : Nat) ≠ o := by omega
  have e41 : (41 : Nat) ≠ o := by omega
  have e42 : (42 : Nat) ≠ o := by omega
  have e43 : (43 : Nat) ≠ o := by omega
  have h41 : ∀ c, pa_new A o g s 41 c = A 41 c := fun c => by simp [pa_new, e41]
  have h42 : ∀ c, pa_new A o g s 42 c = A 42 c := fun c => by simp [pa_new, e42]
  have h43 : ∀ c, pa_new A o g s 43 c = A 43 c := fun c => by simp [pa_new, e43]
  have h40 : pa_new A o g s 40 0 = A 40 0 := by simp [pa_new, e40]
  have hx : pa_new A o g s 40 1 = A 40 1 + 1 := by simp [pa_new, e40]
  have hoth : ∀ p, p < 40 → p ≠ o → ∀ k, pa_new A o g s p k = A p k := fun p hp e k => by
    have : p ≠ 40 := by omega
    simp [pa_new, e, this]
  have hown : ∀ k, pa_new A o g s o k = if k = 0 then A 40 1 else if k = 1 then g else if k = 2 then s else 0 := fun k => by simp [pa_new]
  have hn1 := w.1.2.2.1
  refine pa_wf_one w ho h40 h41 h42 h43 (by omega) (by omega) hoth (by rw [hown, hx]; simp) (by rw [hown]; simp; omega) ?_ ?_
  · intro p hp hpo ha
    rw [hown]
    have := w.2.2.1 p hp
    simp
    omega
  · unfold pa_ok
    simp only [hown, h40, pa_fo_cong h41 h42]
    refine ⟨by simpa using hg, by simp, by simp, ?_⟩
    intro s9 hs9
    have : ¬ 5 + s9 = 0 := by omega
    have h2 : ¬ 5 + s9 = 1 := by omega
    have h3 : ¬ 5 + s9 = 2 := by omega
    simp [this, h2, h3]
set_option maxRecDepth 8192 in
theorem pa_wf_set (w : pa_wf A) {o s v : Nat} (ho : o < 40) (ha : A o 0 ≠ 0) (hs : s < A o 2) (hv : v ≤ 40) (hal : v ≠ 0 → A (v - 1) 0 ≠ 0) : pa_wf (up2 A o (5 + s) v) := by
  have hnx := w.1.2.2.2
  have hoth : ∀ p k, p ≠ o → up2 A o (5 + s) v p k = A p k := fun p k e => by simp [up2, e]
  have hown : ∀ k, up2 A o (5 + s) v o k = if k = 5 + s then v else A o k := fun k => by simp [up2]
  obtain ⟨h1, h2, h3, h4⟩ := w.2.2.2.1 o ho ha
  refine pa_wf_one w ho (hoth 40 0 (by omega)) (fun c => hoth 41 c (by omega)) (fun c => hoth 42 c (by omega)) (fun c => hoth 43 c (by omega)) (by rw [hoth 40 1 (by omega)]; omega) (by rw [hoth 40 1 (by omega)]; omega) (fun p _ e k => hoth p k e) ?_ ?_ ?_ ?_
  · rw [hown, if_neg (by omega), hoth 40 1 (by omega)]
    exact w.2.2.1 o ho
  · rw [hown, if_neg (by omega)]
    exact ha
  · intro p hp e ha2 e2
    rw [hown, if_neg (by omega)] at e2
    exact e (w.2.2.2.2 p o hp ho ha2 e2)
  · unfold pa_ok
    rw [hown 1, hown 2, hown 3, hown 4, if_neg (by omega), if_neg (by omega), if_neg (by omega), if_neg (by omega), hoth 40 0 (by omega), pa_fo_cong (fun c => hoth 41 c (by omega)) (fun c => hoth 42 c (by omega))]
    refine ⟨h1, h2, h3, ?_⟩
    intro s9 hs9
    obtain ⟨a1, a2, a3⟩ := h4 s9 hs9
    have hz : ∀ q, up2 A o (5 + s) v q 0 = A q 0 := fun q => by
      by_cases e : q = o
      · rw [e, hown, if_neg (by omega)]
      · rw [hoth _ _ e]
    rw [hown]
    by_cases e : s9 = s
    · subst e
      rw [if_pos rfl]
      exact ⟨fun h => by omega, hv, fun h => by rw [hz]; exact hal h⟩
    · rw [if_neg (by omega)]
      exact ⟨a1, a2, fun h => by rw [hz]; exact a3 h⟩
set_option maxRecDepth 8192 in
theorem pa_wf_root (w : pa_wf A) {o v : Nat} (ho : o < 40) (ha : A o 0 ≠ 0) (hv : v ≤ 7) : pa_wf (up2 A o 4 v) := by
  have hnx := w.1.2.2.2
  have hoth : ∀ p k, p ≠ o → up2 A o 4 v p k = A p k := fun p k e => by simp [up2, e]
  have hown : ∀ k, up2 A o 4 v o k = if k = 4 then v else A o k := fun k => by simp [up2]
  obtain ⟨h1, h2, h3, h4⟩ := w.2.2.2.1 o ho ha
  refine pa_wf_one w ho (hoth 40 0 (by omega)) (fun c => hoth 41 c (by omega)) (fun c => hoth 42 c (by omega)) (fun c => hoth 43 c (by omega)) (by rw [hoth 40 1 (by omega)]; omega) (by rw [hoth 40 1 (by omega)]; omega) (fun p _ e k => hoth p k e) ?_ ?_ ?_ ?_
  · rw [hown, if_neg (by omega), hoth 40 1 (by omega)]
    exact w.2.2.1 o ho
  · rw [hown, if_neg (by omega)]
    exact ha
  · intro p hp e ha2 e2
    rw [hown, if_neg (by omega)] at e2
    exact e (w.2.2.2.2 p o hp ho ha2 e2)
  · unfold pa_ok
    rw [hown 1, hown 2, hown 3, hown 4, if_neg (by omega), if_neg (by omega), if_neg (by omega), if_pos rfl, hoth 40 0 (by omega), pa_fo_cong (fun c => hoth 41 c (by omega)) (fun c => hoth 42 c (by omega))]
    refine ⟨h1, h2, hv, ?_⟩
    intro s9 hs9
    obtain ⟨a1, a2, a3⟩ := h4 s9 hs9
    have hz : ∀ q, up2 A o 4 v q 0 = A q 0 := fun q => by
      by_cases e : q = o
      · rw [e, hown, if_neg (by omega)]
      · rw [hoth _ _ e]
    rw [hown, if_neg (by omega)]
    exact ⟨a1, a2, fun h => by rw [hz]; exact a3 h⟩
set_option maxRecDepth 8192 in
theorem pa_wf_len (w : pa_wf A) {o n : Nat} (ho : o < 40) (ha : A o 0 ≠ 0) (hg : A o 1 = 10) (hn : n ≤ 8) : pa_wf (pa_len A o n) := by
  have hnx := w.1.2.2.2
  have hoth : ∀ p k, p ≠ o → pa_len A o n p k = A p k := fun p k e => by simp [pa_len, e]
  have hown : ∀ k, pa_len A o n o k = if k = 2 then n else if 5 + n ≤ k then 0 else A o k := fun k => by simp [pa_len]
  obtain ⟨h1, h2, h3, h4⟩ := w.2.2.2.1 o ho ha
  refine pa_wf_one w ho (hoth 40 0 (by omega)) (fun c => hoth 41 c (by omega)) (fun c => hoth 42 c (by omega)) (fun c => hoth 43 c (by omega)) (by rw [hoth 40 1 (by omega)]; omega) (by rw [hoth 40 1 (by omega)]; omega) (fun p _ e k => hoth p k e) ?_ ?_ ?_ ?_
  · rw [hown, if_neg (by omega), if_neg (by omega), hoth 40 1 (by omega)]
    exact w.2.2.1 o ho
  · rw [hown, if_neg (by omega), if_neg (by omega)]
    exact ha
  · intro p hp e ha2 e2
    rw [hown, if_neg (by omega), if_neg (by omega)] at e2
    exact e (w.2.2.2.2 p o hp ho ha2 e2)
  · unfold pa_ok
    rw [hown 1, hown 2, hown 3, hown 4, if_neg (by omega), if_neg (by omega), if_pos rfl, if_neg (by omega), if_neg (by omega), if_neg (by omega), if_neg (by omega)]
    refine ⟨Or.inr (Or.inl ⟨hg, hn⟩), h2, h3, ?_⟩
    intro s9 hs9
    obtain ⟨a1, a2, a3⟩ := h4 s9 hs9
    have hz : ∀ q, pa_len A o n q 0 = A q 0 := fun q => by
      by_cases e : q = o
      · rw [e, hown, if_neg (by omega), if_neg (by omega)]
      · rw [hoth _ _ e]
    rw [hown, if_neg (by omega)]
    by_cases e : 5 + n ≤ 5 + s9
    · rw [if_pos e]
      exact ⟨fun _ => rfl, by omega, fun h => absurd rfl h⟩
    · rw [if_neg e]
      exact ⟨fun h => by omega, a2, fun h => by rw [hz]; exact a3 h⟩
set_option maxRecDepth 8192 in
theorem pa_s_cls (w : pa_wf A) {c f d : Nat} {q : Nat} (hq : q = 42 ∨ q = 43) : ∀ n k, k ≤ A 40 0 → pa_s (pa_cls A c f d) q n k = pa_s A q n k := by
  intro n
  induction n with
  | zero => intro k _; rfl
  | succ n ih =>
    intro k hk
    cases k with
    | zero => rfl
    | succ j =>
      have hs := pa_sup w (c := j) (by omega)
      have hj : ¬ j = A 40 0 := by omega
      have h1 : pa_cls A c f d 41 j = A 41 j := by simp [pa_cls, hj]
      have h2 : pa_cls A c f d q j = A q j := by rcases hq with e | e <;> (subst e; simp [pa_cls, hj])
      show pa_cls A c f d q j + pa_s (pa_cls A c f d) q n (pa_cls A c f d 41 j) = A q j + pa_s A q n (A 41 j)
      rw [h1, h2, ih (A 41 j) (by omega)]
set_option maxRecDepth 8192 in
theorem pa_s_clsN (w : pa_wf A) {c f d : Nat} (hc : c < A 40 0) (hlt : A 40 0 < 10) : pa_fo (pa_cls A c f d) (A 40 0) = pa_fo A c + f ∧ pa_da (pa_cls A c f d) (A 40 0) = pa_da A c + d := by
  have h1 : pa_cls A c f d 41 (A 40 0) = c + 1 := by simp [pa_cls]
  have h2 : pa_cls A c f d 42 (A 40 0) = f := by simp [pa_cls]
  have h3 : pa_cls A c f d 43 (A 40 0) = d := by simp [pa_cls]
  constructor
  · show pa_cls A c f d 42 (A 40 0) + pa_s (pa_cls A c f d) 42 10 (pa_cls A c f d 41 (A 40 0)) = pa_s A 42 11 (c + 1) + f
    rw [h1, h2, pa_s_cls w (Or.inl rfl) 10 (c + 1) (by omega), pa_s_fuel w 42 10 11 (c + 1) (by omega) (by omega) (by omega), Nat.add_comm]
  · show pa_cls A c f d 43 (A 40 0) + pa_s (pa_cls A c f d) 43 10 (pa_cls A c f d 41 (A 40 0)) = pa_s A 43 11 (c + 1) + d
    rw [h1, h3, pa_s_cls w (Or.inr rfl) 10 (c + 1) (by omega), pa_s_fuel w 43 10 11 (c + 1) (by omega) (by omega) (by omega), Nat.add_comm]
set_option maxRecDepth 8192 in
theorem pa_foC (w : pa_wf A) {c f d j : Nat} (hj : j < A 40 0) : pa_fo (pa_cls A c f d) j = pa_fo A j := pa_s_cls w (Or.inl rfl) 11 (j + 1) hj
set_option maxRecDepth 8192 in
theorem pa_daC (w : pa_wf A) {c f d j : Nat} (hj : j < A 40 0) : pa_da (pa_cls A c f d) j = pa_da A j := pa_s_cls w (Or.inr rfl) 11 (j + 1) hj
set_option maxRecDepth 8192 in
theorem pa_cls_obj {c f d o : Nat} (ho : o < 40) (k : Nat) : pa_cls A c f d o k = A o k := by
  have h1 : ¬ o = 40 := by omega
  have h2 : ¬ o = 41 := by omega
  have h3 : ¬ o = 42 := by omega
  have h4 : ¬ o = 43 := by omega
  simp [pa_cls, h1, h2, h3, h4]
set_option maxRecDepth 8192 in
theorem pa_soC (w : pa_wf A) {c f d o : Nat} (ho : o < 40) (ha : A o 0 ≠ 0) : pa_so (pa_cls A c f d) o = pa_so A o := by
  unfold pa_so pa_sc
  rw [pa_cls_obj ho, pa_cls_obj ho]
  obtain ⟨h, -⟩ := w.2.2.2.1 o ho ha
  split
  · rfl
  · split
    · rfl
    · rw [pa_foC w (by omega), pa_daC w (by omega)]
set_option maxRecDepth 8192 in
theorem pa_wf_cls (w : pa_wf A) {c f d : Nat} (hc : c < A 40 0) (hlt : A 40 0 < 10) (hf : f ≤ 3) (hd : d ≤ 40) (h5 : pa_fo A c + f ≤ 5) : pa_wf (pa_cls A c f d) := by
  have h40 : pa_cls A c f d 40 0 = A 40 0 + 1 := by simp [pa_cls]
  have h401 : pa_cls A c f d 40 1 = A 40 1 := by simp [pa_cls]
  have hw1 := w.1
  refine ⟨⟨by rw [h40]; omega, by rw [h40]; omega, by rw [h401]; exact hw1.2.2.1, by rw [h401]; exact hw1.2.2.2⟩, ?_, ?_, ?_, ?_⟩
  · intro j hj
    rw [h40] at hj
    by_cases e : j = A 40 0
    · subst e
      have h1 : pa_cls A c f d 41 (A 40 0) = c + 1 := by simp [pa_cls]
      have h2 : pa_cls A c f d 42 (A 40 0) = f := by simp [pa_cls]
      have h3 : pa_cls A c f d 43 (A 40 0) = d := by simp [pa_cls]
      rw [h1, h2, h3, (pa_s_clsN w hc hlt).1]
      exact ⟨by omega, fun _ => by omega, hf, hd, h5⟩
    · have h1 : pa_cls A c f d 41 j = A 41 j := by simp [pa_cls, e]
      have h2 : pa_cls A c f d 42 j = A 42 j := by simp [pa_cls, e]
      have h3 : pa_cls A c f d 43 j = A 43 j := by simp [pa_cls, e]
      rw [h1, h2, h3, pa_foC w (by omega)]
      exact w.2.1 j (by omega)
  · intro o ho
    rw [pa_cls_obj ho, h401]
    exact w.2.2.1 o ho
  · intro o ho ha
    rw [pa_cls_obj ho] at ha
    obtain ⟨h1, h2, h3, h4⟩ := w.2.2.2.1 o ho ha
    unfold pa_ok
    rw [pa_cls_obj ho, pa_cls_obj ho, pa_cls_obj ho, pa_cls_obj ho, h40]
    refine ⟨?_, h2, h3, ?_⟩
    · rcases h1 with ⟨a, b⟩ | a | a
      · exact Or.inl ⟨by omega, by rw [pa_foC w a]; exact b⟩
      · exact Or.inr (Or.inl a)
      · exact Or.inr (Or.inr a)
    · intro s hs
      rw [pa_cls_obj ho]
      obtain ⟨a1, a2, a3⟩ := h4 s hs
      exact ⟨a1, a2, fun h => by rw [pa_cls_obj (by omega)]; exact a3 h⟩
  · intro o p ho hp ha he
    rw [pa_cls_obj ho] at ha he
    rw [pa_cls_obj hp] at he
    exact w.2.2.2.2 o p ho hp ha he
/-! what refers from p stays in p, but for holders -/
set_option maxRecDepth 8192 in
theorem pa_wf_kp (w : pa_wf A) {p : Nat → Bool} (hal : ∀ o, o < 40 → p o = true → A o 0 ≠ 0) (hcl : ∀ o, o < 40 → p o = true → A o 1 ≠ 11 → ∀ s, s < 8 → A o (5 + s) ≠ 0 → p (A o (5 + s) - 1) = true) : pa_wf (pa_kp A p) := by
  have hr : ∀ a k, 40 ≤ a → pa_kp A p a k = A a k := fun a k ha => by
    have : ¬ a < 40 := by omega
    simp [pa_kp, this]
  have h0 : ∀ o, o < 40 → pa_kp A p o 0 = if p o = true then A o 0 else 0 := fun o ho => by
    unfold pa_kp
    rw [if_pos ho]
    cases e : p o
    · simp
    · by_cases e2 : A o 0 = 0 <;> simp [e2]
  have hfo : ∀ c, pa_fo (pa_kp A p) c = pa_fo A c := fun c => pa_fo_cong (fun c => hr 41 c (by omega)) (fun c => hr 42 c (by omega)) c
  refine ⟨by rw [hr 40 0 (by omega), hr 40 1 (by omega)]; exact w.1, ?_, ?_, ?_, ?_⟩
  · intro c hc
    rw [hr 40 0 (by omega)] at hc
    rw [hr 41 c (by omega), hr 42 c (by omega), hr 43 c (by omega), hfo]
    exact w.2.1 c hc
  · intro o ho
    rw [h0 o ho, hr 40 1 (by omega)]
    have h1 := w.2.2.1 o ho
    split <;> omega
  · intro o ho ha
    rw [h0 o ho] at ha
    have hp : p o = true := by
      cases e : p o
      · rw [e] at ha; simp at ha
      · rfl
    have hA := hal o ho hp
    obtain ⟨h1, h2, h3, h4⟩ := w.2.2.2.1 o ho hA
    have hk : ∀ k, k ≠ 3 → k ≠ 5 → pa_kp A p o k = A o k := fun k e1 e2 => by
      unfold pa_kp
      rw [if_pos ho, hp]
      simp [hA, e1, e2]
    have hk3 : pa_kp A p o 3 ≤ 99 := by
      unfold pa_kp
      rw [if_pos ho, hp]
      simp only [Bool.true_eq_false, if_false, hA, if_true]
      split <;> omega
    unfold pa_ok
    rw [hk 1 (by omega) (by omega), hk 2 (by omega) (by omega), hk 4 (by omega) (by omega), hr 40 0 (by omega), hfo]
    refine ⟨h1, hk3, h3, ?_⟩
    intro s hs
    obtain ⟨a1, a2, a3⟩ := h4 s hs
    by_cases e : s = 0
    · subst e
      have h5 : pa_kp A p o 5 = if A o 1 = 11 ∧ A o 5 ≠ 0 ∧ p (A o 5 - 1) = false then 0 else A o 5 := by
        unfold pa_kp
        rw [if_pos ho, hp]
        simp [hA]
      rw [show 5 + 0 = 5 from rfl] at a1 a2 a3 ⊢
      rw [h5]
      split
      · exact ⟨fun _ => rfl, by omega, fun h => absurd rfl h⟩
      · next hc =>
        refine ⟨a1, a2, fun hne => ?_⟩
        rw [h0 _ (by omega)]
        have hp2 : p (A o 5 - 1) = true := by
          by_cases e11 : A o 1 = 11
          · cases e3 : p (A o 5 - 1)
            · exact absurd ⟨e11, hne, e3⟩ hc
            · rfl
          · exact hcl o ho hp e11 0 (by omega) hne
        rw [if_pos hp2]
        exact a3 hne
    · rw [hk (5 + s) (by omega) (by omega)]
      refine ⟨a1, a2, fun hne => ?_⟩
      rw [h0 _ (by omega)]
      have hp2 : p (A o (5 + s) - 1) = true := by
        by_cases e11 : A o 1 = 11
        · have h10 := pa_cc10 w
          have : A o 2 = 1 := by omega
          exact absurd (a1 (by omega)) hne
        · exact hcl o ho hp e11 s hs hne
      rw [if_pos hp2]
      exact a3 hne
  · intro o q ho hq ha he
    rw [h0 o ho] at ha he
    rw [h0 q hq] at he
    have hp : p o = true := by
      cases e : p o
      · rw [e] at ha; simp at ha
      · rfl
    rw [hp] at ha he
    simp only [if_true] at ha he
    cases e : p q
    · rw [e] at he; simp at he; exact absurd he ha
    · rw [e] at he
      simp only [if_true] at he
      exact w.2.2.2.2 o q ho hq ha he
end PAO
