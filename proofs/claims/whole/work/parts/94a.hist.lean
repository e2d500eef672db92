/-! the class's whole state, and its history -/
set_option maxRecDepth 8192 in
theorem hp_st {k : Nat} (h : k < 6) : pm_hp (31 + 11 * k) := by
  unfold pm_hp
  omega
set_option maxRecDepth 8192 in
theorem hp_pi {p : Nat} (h : p < 2) : pm_hp (107 + 11 * p) := by
  unfold pm_hp
  omega
set_option maxRecDepth 8192 in
theorem hp_1 : pm_hp 1 := Or.inl rfl
def up1 {α : Type} (r : Nat → α) (j : Nat) (x : α) : Nat → α := fun i => if i = j then x else r i
def hS_n (n : Nat) : Nat := if n = 5 then 5 else n + 1
def hS_H (n : Nat) (H : Nat → Nat → Nat → Nat) (A : Nat → Nat → Nat) (i : Nat) : Nat → Nat → Nat := if n = 5 then (if i = 4 then A else H (i + 1)) else (if i = n then A else H i)
/-- the history of the class: which state lies where -/
def cH (I : Nat → Nat → Int32) (r : Nat → Option Nat) (n : Nat) (H : Nat → Nat → Nat → Nat) (π : Nat → Nat) : Prop := n ≤ 5 ∧ I 29 1 = nI n ∧ (∀ i, i < 6 → π i < 6 ∧ r i = some (31 + 11 * π i)) ∧ (∀ i j, i < 6 → j < 6 → π i = π j → i = j) ∧ ∀ i, i < n → ph_rep I (31 + 11 * π i) (H i)
/-- the analysis is no newer than the heap -/
def cV (I : Nat → Nat → Int32) (L : Nat → Nat → Int64) (A : Nat → Nat → Nat) (B : Nat) : Prop := ∃ v c, I 1 12 = nI v ∧ v ≤ B ∧ I 12 12 = mI c ∧ c ≤ v + 1 ∧ (c = v + 1 → px_an I L A)
def cT (I : Nat → Nat → Int32) (t : Nat) (T : Nat → Nat) : Prop := I 97 1 = nI t ∧ ∀ j, j < t → I 98 j = nI (T j)
def cP (I : Nat → Nat → Int32) (P : Nat → Nat → Nat → Nat) (k : Nat → Bool) : Prop := ∀ p, p < 2 → I 129 p = bI (k p) ∧ (k p = true → ph_rep I (107 + 11 * p) (P p))
def cS (I : Nat → Nat → Int32) (L : Nat → Nat → Int64) (r : Nat → Option Nat) (A : Nat → Nat → Nat) (n : Nat) (H : Nat → Nat → Nat → Nat) (t : Nat) (T : Nat → Nat) (P : Nat → Nat → Nat → Nat) (k : Nat → Bool) (B : Nat) : Prop := ph_rep I 1 A ∧ cV I L A B ∧ (∃ π, cH I r n H π) ∧ cT I t T ∧ cP I P k
/-- what both sides rest on -/
def aS (A : Nat → Nat → Nat) (n : Nat) (H : Nat → Nat → Nat → Nat) (t : Nat) (T : Nat → Nat) (P : Nat → Nat → Nat → Nat) (k : Nat → Bool) (B : Nat) : Prop := B < 2 ^ 29 ∧ pa_wf A ∧ A 40 1 ≤ B ∧ n ≤ 5 ∧ (∀ i, i < n → pa_wf (H i) ∧ H i 40 1 ≤ B) ∧ t ≤ 100 ∧ (∀ j, j < t → T j < 128) ∧ ∀ p, p < 2 → k p = true → pa_wf (P p)
section HIS
variable {I J : Nat → Nat → Int32} {L K : Nat → Nat → Int64} {r : Nat → Option Nat} {A : Nat → Nat → Nat} {n : Nat} {H : Nat → Nat → Nat → Nat} {t : Nat} {T : Nat → Nat} {P : Nat → Nat → Nat → Nat} {k : Nat → Bool} {B : Nat} {π : Nat → Nat}
set_option maxRecDepth 8192 in
theorem pA_30 {j : Nat} (h : j < 6) : hb_aald (pm I L r) 30 (nI j) = r j := pm_aald (n := 6) rfl (by decide) h rfl
set_option maxRecDepth 8192 in
theorem pS_30 {j b : Nat} (h : j < 6) (hb : pm_hp b) : hb_aast (pm I L r) 30 (nI j) b = some (pm I L (up1 r j (some b))) := by
  have hb2 : pm_Λ[b]? = some (8, 13) := by rcases hb with e | e | e | e | e | e | e | e | e <;> subst e <;> rfl
  unfold hb_aast
  rw [show (pm I L r).1[30]? = some (3, 6) from rfl, show (pm I L r).1[b]? = some (8, 13) from hb2]
  simp only [nI_clamp (show j < 2 ^ 31 from by omega)]
  rw [if_neg (by
    rintro (h1 | h1)
    · exact nI_pos (by omega) h1
    · omega)]
  congr 1
  unfold hb_setR
  show (pm_Λ, I, L, _) = (pm_Λ, I, L, _)
  congr 3
  funext a i
  show va_up (pm_R r) 30 (va_up (pm_R r 30) j (some b)) a i = pm_R (up1 r j (some b)) a i
  unfold va_up pm_R up1
  by_cases e : a = 30
  · subst e
    simp
  · simp [e]
/-! changes outside what a piece rests on -/
set_option maxRecDepth 8192 in
theorem cV_fr (h : cV I L A B) (e : ∀ a, (a = 1 ∨ (12 ≤ a ∧ a ≤ 28 ∧ (a < 17 ∨ 20 < a))) → J a = I a ∧ K a = L a) : cV J K A B := by
  obtain ⟨v, c, h1, h2, h3, h4, h5⟩ := h
  refine ⟨v, c, by rw [(e 1 (by omega)).1]; exact h1, h2, by rw [(e 12 (by omega)).1]; exact h3, h4, fun h => px_fr (h5 h) (fun a a1 a2 a3 => e a (by omega))⟩
set_option maxRecDepth 8192 in
theorem cV_le {B' : Nat} (h : cV I L A B) (hb : B ≤ B') : cV I L A B' := by
  obtain ⟨v, c, h1, h2, h⟩ := h
  exact ⟨v, c, h1, by omega, h⟩
/-! the heap has changed: the analysis is out of date -/
set_option maxRecDepth 8192 in
theorem cV_up {A' : Nat → Nat → Nat} (h : cV I L A B) (hB : B < 2 ^ 30) (e12 : J 12 12 = I 12 12) (e : J 1 12 = I 1 12 + nI 1) : cV J K A' (B + 1) := by
  obtain ⟨v, c, h1, h2, h3, h4, h5⟩ := h
  refine ⟨v + 1, c, by rw [e, h1, nI_add], by omega, by rw [e12]; exact h3, by omega, fun h => by omega⟩
set_option maxRecDepth 8192 in
theorem cV_fresh (h : cV I L A B) (hB : B < 2 ^ 30) : I 12 12 = I 1 12 → px_an I L A := by
  obtain ⟨v, c, h1, h2, h3, h4, h5⟩ := h
  intro e
  rw [h1, h3, mI_nI (by omega) (by omega)] at e
  exact h5 e
set_option maxRecDepth 8192 in
theorem cH_fr {r' : Nat → Option Nat} (h : cH I r n H π) (er : ∀ i, i < 6 → r' i = r i) (e : ∀ a, 29 ≤ a → a ≤ 96 → J a = I a) : cH J r' n H π := by
  obtain ⟨h0, h1, h2, h3, h4⟩ := h
  refine ⟨h0, by rw [e 29 (by omega) (by omega)]; exact h1, fun i hi => ⟨(h2 i hi).1, by rw [er i hi]; exact (h2 i hi).2⟩, h3, fun i hi => ?_⟩
  have := (h2 i (by omega)).1
  exact ph_fr (h4 i hi) (fun a a1 a2 => e a (by omega) (by omega))
set_option maxRecDepth 8192 in
theorem cT_fr (h : cT I t T) (e : ∀ a, a = 97 ∨ a = 98 → J a = I a) : cT J t T := by
  unfold cT
  rw [e 97 (by omega), e 98 (by omega)]
  exact h
set_option maxRecDepth 8192 in
theorem cP_fr (h : cP I P k) (e : ∀ a, 107 ≤ a → a ≤ 129 → J a = I a) : cP J P k := by
  intro p hp
  obtain ⟨h1, h2⟩ := h p hp
  refine ⟨by rw [e 129 (by omega) (by omega)]; exact h1, fun hk => ph_fr (h2 hk) (fun a a1 a2 => e a (by omega) (by omega))⟩
set_option maxRecDepth 8192 in
theorem cS_le {B' : Nat} (h : cS I L r A n H t T P k B) (hb : B ≤ B') : cS I L r A n H t T P k B' := ⟨h.1, cV_le h.2.1 hb, h.2.2⟩
/-! what lies outside the class changes -/
set_option maxRecDepth 8192 in
theorem cS_fr (h : cS I L r A n H t T P k B) (e : ∀ a, a < 130 → (a < 17 ∨ 20 < a) → J a = I a ∧ K a = L a) : cS J K r A n H t T P k B := by
  obtain ⟨h1, h2, ⟨π, h3⟩, h4, h5⟩ := h
  refine ⟨ph_fr h1 (fun a _ _ => (e a (by omega) (by omega)).1), cV_fr h2 (fun a _ => e a (by omega) (by omega)), ⟨π, cH_fr h3 (fun _ _ => rfl) (fun a _ _ => (e a (by omega) (by omega)).1)⟩, cT_fr h4 (fun a _ => (e a (by omega) (by omega)).1), cP_fr h5 (fun a _ _ => (e a (by omega) (by omega)).1)⟩
/-! a changed heap -/
set_option maxRecDepth 8192 in
theorem cS_heap {A' : Nat → Nat → Nat} (h : cS I L r A n H t T P k B) (hB : B < 2 ^ 30) (hR : ph_rep J 1 A') (hv : J 1 12 = I 1 12 + nI 1) (e : ∀ a, 11 < a → J a = I a) : cS J L r A' n H t T P k (B + 1) := by
  obtain ⟨h1, h2, ⟨π, h3⟩, h4, h5⟩ := h
  refine ⟨hR, cV_up h2 hB (by rw [e 12 (by omega)]) hv, ⟨π, cH_fr h3 (fun _ _ => rfl) (fun a _ _ => e a (by omega))⟩, cT_fr h4 (fun a _ => e a (by omega)), cP_fr h5 (fun a _ _ => e a (by omega))⟩
set_option maxRecDepth 8192 in
theorem x5_note (h : cH I r n H π) {s : Nat} (hs : pm_hp s) (hs2 : s < 31 ∨ 96 < s) : f_X5_note 29 s (pm I L r) = some (pm (pu_cp I (31 + 11 * π n) s) L r) := by
  obtain ⟨h0, h1, h2, h3, h4⟩ := h
  obtain ⟨p1, p2⟩ := h2 n (by omega)
  unfold f_X5_note
  simp (disch := omega) only [pR_29_0, pI_29_1, pbs, h1, pA_30, p2, pO_h (hp_st p1), x4_copyFrom (hp_st p1) hs (by omega)]
set_option maxRecDepth 8192 in
theorem cH_note (h : cH I r n H π) {s : Nat} : cH (pu_cp I (31 + 11 * π n) s) r n H π := by
  obtain ⟨h0, h1, h2, h3, h4⟩ := h
  have hn := (h2 n (by omega)).1
  refine ⟨h0, by rw [pu_cp_fr 29 (by omega)]; exact h1, h2, h3, fun i hi => ?_⟩
  have hi2 := (h2 i (by omega)).1
  have hne : π i ≠ π n := fun e => by
    have := h3 i n (by omega) (by omega) e
    omega
  exact ph_fr (h4 i hi) (fun a a1 a2 => pu_cp_fr a (by omega))
set_option maxRecDepth 8192 in
theorem x5_keep (h : cH I r n H π) {N : Nat → Nat → Nat} (hN : ph_rep I (31 + 11 * π n) N) : ∃ J r', f_X5_keepNoted 29 (pm I L r) = some (pm J L r') ∧ (∃ π', cH J r' (hS_n n) (hS_H n H N) π') ∧ ∀ a, a ≠ 29 → J a = I a := by
  obtain ⟨h0, h1, h2, h3, h4⟩ := h
  unfold f_X5_keepNoted
  simp (disch := omega) only [pI_29_1, pbs, h1, plit, pn_le]
  by_cases e5 : n = 5
  · subst e5
    rw [if_pos (by omega)]
    obtain ⟨p1, p2⟩ := h2 0 (by omega)
    refine ⟨I, up1 (fun j => if j < 5 then r (j + 1) else r j) 5 (some (31 + 11 * π 0)), ?_, ⟨fun i => if i < 5 then π (i + 1) else π 0, by decide, h1, ?_, ?_, ?_⟩, fun _ _ => rfl⟩
    · simp (disch := omega) only [pR_29_0, pbs, pA_30, p2]
      have hl := pm_seq (fun m (s : Nat → Option Nat) i => f_X5_keepNoted_b28 m 29 (31 + 11 * π 0) (nI i) (pm I L s)) (fun i => fun j => if j < i then r (j + 1) else r j) 5 (out := some (pm I L (up1 (fun j => if j < 5 then r (j + 1) else r j) 5 (some (31 + 11 * π 0))))) (by
        intro m i hi
        obtain ⟨q1, q2⟩ := h2 (i + 1) (by omega)
        have q3 : (if i + 1 < i then r (i + 1 + 1) else r (i + 1)) = some (31 + 11 * π (i + 1)) := by
          rw [if_neg (by omega)]
          exact q2
        simp (disch := omega) only [f_X5_keepNoted_b28, plit, pn_le, pR_29_0, pbs, nI_add, pA_30, q3, pS_30 (show i < 6 from by omega) (hp_st q1)]
        rw [if_neg (show ¬ 5 ≤ i from by omega)]
        congr 2
        funext j
        unfold up1
        by_cases ej : j = i
        · rw [if_pos ej, if_pos (by omega), ej, q2]
        · rw [if_neg ej]
          show (if j < i then r (j + 1) else r j) = _
          by_cases ej2 : j < i
          · rw [if_pos ej2, if_pos (by omega)]
          · rw [if_neg ej2, if_neg (by omega)]) (by
        intro m
        simp (disch := omega) only [f_X5_keepNoted_b28, plit, pn_le, Nat.le_refl, if_true, pR_29_0, pbs, pS_30 (show 5 < 6 from by decide) (hp_st p1)]) hb_FU (by decide)
      have e0 : (fun j => if j < 0 then r (j + 1) else r j) = r := by
        funext j
        rw [if_neg (Nat.not_lt_zero j)]
      simp only [e0] at hl
      exact hl
    · intro i hi
      unfold up1
      by_cases ei : i = 5
      · rw [if_pos ei]
        simp only [ei, Nat.lt_irrefl, if_false]
        exact ⟨p1, trivial⟩
      · rw [if_neg ei]
        simp only [show i < 5 from by omega, if_true]
        exact h2 (i + 1) (by omega)
    · intro i j hi hj he
      by_cases ei : i < 5
      · by_cases ej : j < 5
        · simp only [ei, ej, if_true] at he
          have := h3 (i + 1) (j + 1) (by omega) (by omega) he
          omega
        · simp only [ei, ej, if_true, if_false] at he
          have := h3 (i + 1) 0 (by omega) (by omega) he
          omega
      · by_cases ej : j < 5
        · simp only [ei, ej, if_true, if_false] at he
          have := h3 0 (j + 1) (by omega) (by omega) he
          omega
        · omega
    · intro i hi
      have hi : i < 5 := hi
      unfold hS_H
      simp only [hi, if_true]
      by_cases ei : i = 4
      · subst ei
        simp only [if_true]
        exact hN
      · rw [if_neg ei]
        exact h4 (i + 1) (by omega)
  · rw [if_neg (by omega)]
    simp (disch := omega) only [pP_29_1, pbs, nI_add]
    refine ⟨_, _, rfl, ⟨π, ?_, ?_, h2, h3, ?_⟩, fun a ha => up2_a ha⟩
    · unfold hS_n
      rw [if_neg e5]
      omega
    · unfold hS_n
      rw [if_neg e5, up2_eq]
    · intro i hi
      unfold hS_n at hi
      rw [if_neg e5] at hi
      unfold hS_H
      rw [if_neg e5]
      by_cases ei : i = n
      · rw [if_pos ei, ei]
        exact ph_fr hN (fun a a1 a2 => up2_a (by omega))
      · rw [if_neg ei]
        exact ph_fr (h4 i (by omega)) (fun a a1 a2 => up2_a (by omega))
set_option maxRecDepth 8192 in
theorem x5_save (h : cS I L r A n H t T P k B) (w : pa_wf A) : ∃ J r', f_X5_save 29 1 (pm I L r) = some (pm J L r') ∧ cS J L r' A (hS_n n) (hS_H n H A) t T P k B ∧ ∀ a, (a < 29 ∨ 96 < a) → J a = I a := by
  obtain ⟨h1, h2, ⟨π, h3⟩, h4, h5⟩ := h
  have hn := (h3.2.2.1 n (by have := h3.1; omega)).1
  have hf1 : ∀ a, (a < 29 ∨ 96 < a) → pu_cp I (31 + 11 * π n) 1 a = I a := fun a ha => pu_cp_fr a (by omega)
  obtain ⟨J, r', e1, e2, e3⟩ := x5_keep (L := L) (cH_note (s := 1) h3) (ph_cp h1 w (by omega))
  have hf : ∀ a, (a < 29 ∨ 96 < a) → J a = I a := fun a ha => by rw [e3 a (by omega), hf1 a ha]
  refine ⟨J, r', ?_, ⟨ph_fr h1 (fun a _ _ => hf a (by omega)), cV_fr h2 (fun a _ => ⟨hf a (by omega), rfl⟩), e2, cT_fr h4 (fun a _ => hf a (by omega)), cP_fr h5 (fun a _ _ => hf a (by omega))⟩, hf⟩
  unfold f_X5_save
  simp only [pO_29, x5_note h3 hp_1 (Or.inl (by decide)), pbs, e1]
/-! the history after a save is sound -/
set_option maxRecDepth 8192 in
theorem aS_save (h : aS A n H t T P k B) : aS A (hS_n n) (hS_H n H A) t T P k B := by
  obtain ⟨h0, h1, h2, h3, h4, h5⟩ := h
  refine ⟨h0, h1, h2, ?_, ?_, h5⟩
  · unfold hS_n
    split <;> omega
  · intro i hi
    unfold hS_H
    unfold hS_n at hi
    by_cases e : n = 5
    · rw [if_pos e]
      rw [if_pos e] at hi
      by_cases e2 : i = 4
      · rw [if_pos e2]
        exact ⟨h1, h2⟩
      · rw [if_neg e2]
        exact h4 (i + 1) (by omega)
    · rw [if_neg e]
      rw [if_neg e] at hi
      by_cases e2 : i = n
      · rw [if_pos e2]
        exact ⟨h1, h2⟩
      · rw [if_neg e2]
        exact h4 i (by omega)
set_option maxRecDepth 8192 in
theorem aS_le {B' : Nat} (h : aS A n H t T P k B) (hb : B ≤ B') (hB : B' < 2 ^ 29) : aS A n H t T P k B' := by
  obtain ⟨h0, h1, h2, h3, h4, h5⟩ := h
  exact ⟨hB, h1, by omega, h3, fun i hi => ⟨(h4 i hi).1, by have := (h4 i hi).2; omega⟩, h5⟩
end HIS
