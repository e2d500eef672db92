/-! dominators: narrowing, round by round -/
/-- o can be reached, but not without a -/
noncomputable def pd_D (A : Nat → Nat → Nat) (o a : Nat) : Bool := pg_b A pg_0 pg_00 pg_0 o && !pg_b A (fun x => decide (x = a)) pg_00 pg_0 o
def dm_nar (D : Nat → Nat → Bool) (p t : Nat) : Nat → Nat → Bool := fun o a => if o = t then D t a && (D p a || decide (a = t)) else D o a
def dm_slot (A : Nat → Nat → Nat) (p i : Nat) (s : Bool × (Nat → Nat → Bool)) : Bool × (Nat → Nat → Bool) := if pa_rf A (p * 8 + i) = 0 then s else (s.1 || !decide (hb_mk (fun a => s.2 (pa_rf A (p * 8 + i) - 1) a && (s.2 p a || decide (a = pa_rf A (p * 8 + i) - 1))) = hb_mk (s.2 (pa_rf A (p * 8 + i) - 1))), dm_nar s.2 p (pa_rf A (p * 8 + i) - 1))
def dm_place (A : Nat → Nat → Nat) (p : Nat) (s : Bool × (Nat → Nat → Bool)) : Bool × (Nat → Nat → Bool) := pm_fold (dm_slot A p) 8 s
def dm_round (A : Nat → Nat → Nat) (od : Nat → Nat) (n : Nat) (s : Bool × (Nat → Nat → Bool)) : Bool × (Nat → Nat → Bool) := pm_fold (fun i s => dm_place A (od (i + 1)) s) n s
def dm_sound (A : Nat → Nat → Nat) (D : Nat → Nat → Bool) : Prop := ∀ o a, o < 40 → a < 40 → pd_D A o a = true → D o a = true
section DOM
variable {A : Nat → Nat → Nat}
set_option maxRecDepth 8192 in
theorem pd_R {o a : Nat} (h : pd_D A o a = true) : pg_b A pg_0 pg_00 pg_0 o = true := by
  unfold pd_D at h
  simp only [Bool.and_eq_true] at h
  exact h.1
set_option maxRecDepth 8192 in
theorem pg_E0 (w : pa_wf A) {p s t : Nat} (hp : p < 40) (hs : s < 8) (h : pa_rf A (p * 8 + s) = t + 1) (W : Nat → Bool) (hW : W t = false) : pg_E A W pg_00 p t = true := by
  unfold pa_rf at h
  rw [show (p * 8 + s) / 8 = p from by omega, show (p * 8 + s) % 8 = s from by omega] at h
  by_cases e : A p 0 ≠ 0 ∧ A p 1 ≠ 11
  · rw [if_pos e] at h
    unfold pg_E pa_e
    have : pq_any (fun s => decide (A p (5 + s) = t + 1) && !pg_00 p s) 8 = true := (pq_any_iff _ _).mpr ⟨s, hs, by simp [h, pg_00]⟩
    simp [hp, pa_al, e.1, e.2, this, hW]
  · rw [if_neg e] at h
    omega
set_option maxRecDepth 8192 in
theorem pg_E0' {p t : Nat} {W : Nat → Bool} (h : pg_E A W pg_00 p t = true) : p < 40 ∧ W t = false ∧ ∃ s, s < 8 ∧ pa_rf A (p * 8 + s) = t + 1 := by
  unfold pg_E pa_e at h
  simp only [Bool.and_eq_true, decide_eq_true_eq, pq_any_iff, Bool.not_eq_true', pa_al] at h
  obtain ⟨⟨hp, ⟨h1, h2⟩, s, hs, h3, -⟩, h4⟩ := h
  refine ⟨hp, h4, s, hs, ?_⟩
  unfold pa_rf
  rw [show (p * 8 + s) / 8 = p from by omega, show (p * 8 + s) % 8 = s from by omega, if_pos ⟨h1, h2⟩]
  exact h3
/-! a true dominator of a target dominates what refers to it -/
set_option maxRecDepth 8192 in
theorem pd_up (w : pa_wf A) {p s t a : Nat} (hp : p < 40) (hs : s < 8) (h : pa_rf A (p * 8 + s) = t + 1) (hr : pg_b A pg_0 pg_00 pg_0 p = true) (hd : pd_D A t a = true) : a = t ∨ pd_D A p a = true := by
  by_cases e : a = t
  · exact Or.inl e
  · right
    unfold pd_D at hd ⊢
    simp only [Bool.and_eq_true, Bool.not_eq_true'] at hd ⊢
    refine ⟨hr, ?_⟩
    apply pr_b_not.mpr
    intro h2
    have h3 : pr_R (pg_E A (fun x => decide (x = a)) pg_00) (pg_S A (fun x => decide (x = a)) pg_0) t := pr_step h2 (pg_E0 w hp hs h _ (by simp; omega))
    exact (pr_b_not.mp hd.2) h3
set_option maxRecDepth 8192 in
theorem dm_slots (w : pa_wf A) {p : Nat} (hp : p < 40) (hr : pg_b A pg_0 pg_00 pg_0 p = true) {c0 : Bool} {D0 : Nat → Nat → Bool} (h0 : dm_sound A D0) : (fun s : Bool × (Nat → Nat → Bool) => (s.1 = false → c0 = false ∧ ∀ o a, o < 40 → a < 40 → s.2 o a = D0 o a) ∧ (∀ o a, s.2 o a = true → D0 o a = true) ∧ dm_sound A s.2 ∧ ∀ i t, i < 8 → pa_rf A (p * 8 + i) = t + 1 → ∀ a, s.2 t a = true → a = t ∨ D0 p a = true) (dm_place A p (c0, D0)) := by
  have hf := pm_fold_inv (dm_slot A p) (fun k (s : Bool × (Nat → Nat → Bool)) => (s.1 = false → c0 = false ∧ ∀ o a, o < 40 → a < 40 → s.2 o a = D0 o a) ∧ (∀ o a, s.2 o a = true → D0 o a = true) ∧ dm_sound A s.2 ∧ ∀ i t, i < k → i < 8 → pa_rf A (p * 8 + i) = t + 1 → ∀ a, s.2 t a = true → a = t ∨ D0 p a = true) 8 (c0, D0) ⟨fun h => ⟨h, fun _ _ _ _ => rfl⟩, fun _ _ h => h, h0, fun i t h => by omega⟩ (by
    rintro i ⟨c, D⟩ hi ⟨p1, p2, p3, p4⟩
    simp only at p1 p2 p3 p4
    unfold dm_slot
    by_cases e : pa_rf A (p * 8 + i) = 0
    · rw [if_pos e]
      refine ⟨p1, p2, p3, ?_⟩
      intro i' t hi' hi8 hrf a ha
      by_cases e2 : i' = i
      · rw [e2, e] at hrf
        omega
      · exact p4 i' t (by omega) hi8 hrf a ha
    · rw [if_neg e]
      obtain ⟨t, ht⟩ : ∃ t, pa_rf A (p * 8 + i) = t + 1 := ⟨pa_rf A (p * 8 + i) - 1, by omega⟩
      have hle := pa_rf_le w hp hi
      rw [ht, Nat.add_sub_cancel]
      have hnar : ∀ o a, dm_nar D p t o a = true → D o a = true := by
        intro o a h
        unfold dm_nar at h
        by_cases e2 : o = t
        · rw [if_pos e2] at h
          rw [e2]
          simp only [Bool.and_eq_true] at h
          exact h.1
        · rw [if_neg e2] at h
          exact h
      refine ⟨?_, ?_, ?_, ?_⟩
      · intro hc
        simp only [Bool.or_eq_false_iff, Bool.not_eq_false', decide_eq_true_eq] at hc
        obtain ⟨q1, q2⟩ := p1 hc.1
        refine ⟨q1, ?_⟩
        intro o a ho ha
        show dm_nar D p t o a = D0 o a
        rw [← q2 o a ho ha]
        unfold dm_nar
        by_cases e2 : o = t
        · rw [if_pos e2, e2]
          exact pb_inj hc.2 ha
        · rw [if_neg e2]
      · intro o a h
        exact p2 o a (hnar o a h)
      · intro o a ho ha hd
        show dm_nar D p t o a = true
        unfold dm_nar
        by_cases e2 : o = t
        · rw [if_pos e2]
          rw [e2] at hd
          have q1 := p3 t a (by omega) ha hd
          rcases pd_up w hp hi ht hr hd with e3 | e3
          · rw [q1, e3]
            simp
          · rw [q1, p3 p a hp ha e3]
            simp
        · rw [if_neg e2]
          exact p3 o a ho ha hd
      · intro i' t' hi' hi8 hrf a ha
        have ha2 : D t' a = true := hnar t' a ha
        by_cases e2 : i' = i
        · rw [e2, ht] at hrf
          have : t = t' := by omega
          subst this
          have ha : dm_nar D p t t a = true := ha
          unfold dm_nar at ha
          rw [if_pos rfl] at ha
          simp only [Bool.and_eq_true, Bool.or_eq_true, decide_eq_true_eq] at ha
          rcases ha.2 with e3 | e3
          · exact Or.inr (p2 p a e3)
          · exact Or.inl e3
        · exact p4 i' t' (by omega) hi8 hrf a ha2)
  obtain ⟨q1, q2, q3, q4⟩ := hf
  exact ⟨q1, q2, q3, fun i t hi => q4 i t hi hi⟩
/-! a whole round -/
set_option maxRecDepth 8192 in
theorem dm_rounds (w : pa_wf A) {od : Nat → Nat} {n : Nat} (hod : ∀ i, i < n → od (i + 1) < 40 ∧ pg_b A pg_0 pg_00 pg_0 (od (i + 1)) = true) {D0 : Nat → Nat → Bool} (h0 : dm_sound A D0) : (fun s : Bool × (Nat → Nat → Bool) => (s.1 = false → ∀ o a, o < 40 → a < 40 → s.2 o a = D0 o a) ∧ (∀ o a, s.2 o a = true → D0 o a = true) ∧ dm_sound A s.2 ∧ ∀ j i t, j < n → i < 8 → pa_rf A (od (j + 1) * 8 + i) = t + 1 → ∀ a, s.2 t a = true → a = t ∨ D0 (od (j + 1)) a = true) (dm_round A od n (false, D0)) := by
  have hf := pm_fold_inv (fun i s => dm_place A (od (i + 1)) s) (fun k (s : Bool × (Nat → Nat → Bool)) => (s.1 = false → ∀ o a, o < 40 → a < 40 → s.2 o a = D0 o a) ∧ (∀ o a, s.2 o a = true → D0 o a = true) ∧ dm_sound A s.2 ∧ ∀ j i t, j < k → i < 8 → pa_rf A (od (j + 1) * 8 + i) = t + 1 → ∀ a, s.2 t a = true → a = t ∨ D0 (od (j + 1)) a = true) n (false, D0) ⟨fun _ _ _ _ _ => rfl, fun _ _ h => h, h0, fun j i t h => by omega⟩ (by
    rintro k ⟨c, D⟩ hk ⟨p1, p2, p3, p4⟩
    simp only at p1 p2 p3 p4
    obtain ⟨q1, q2, q3, q4⟩ := dm_slots w (hod k hk).1 (hod k hk).2 (c0 := c) p3
    refine ⟨?_, ?_, q3, ?_⟩
    · intro hc o a ho ha
      obtain ⟨e1, e2⟩ := q1 hc
      rw [e2 o a ho ha]
      exact p1 e1 o a ho ha
    · intro o a h
      exact p2 o a (q2 o a h)
    · intro j i t hj hi hrf a ha
      by_cases e : j = k
      · rw [e] at hrf ⊢
        rcases q4 i t hi hrf a ha with e2 | e2
        · exact Or.inl e2
        · exact Or.inr (p2 _ a e2)
      · exact p4 j i t (by omega) hi hrf a (q2 t a ha))
  exact hf
def dm_D0 (A : Nat → Nat → Nat) (F : Nat → Bool) (o a : Nat) : Bool := if pa_r A o = true then decide (a = o) else F o && F a
/-- what holds behind i rounds -/
def dm_inv (A : Nat → Nat → Nat) (i : Nat) (s : Bool × (Nat → Nat → Bool)) : Prop := dm_sound A s.2 ∧ (∀ o a, o < 40 → s.2 o a = true → pg_b A pg_0 pg_00 pg_0 o = true) ∧ (∀ d o a, d ≤ i → pr_W (pg_E A (fun x => decide (x = a)) pg_00) (pg_S A (fun x => decide (x = a)) pg_0) d o → s.2 o a = false) ∧ (s.1 = false → ∀ d o a, a < 40 → pr_W (pg_E A (fun x => decide (x = a)) pg_00) (pg_S A (fun x => decide (x = a)) pg_0) d o → s.2 o a = false)
set_option maxRecDepth 8192 in
theorem pg_ofW (w : pa_wf A) {W : Nat → Bool} {d o : Nat} (h : pr_W (pg_E A W pg_00) (pg_S A W pg_0) d o) : pg_b A pg_0 pg_00 pg_0 o = true := by
  apply pr_b_iff.mpr
  refine pr_R_mono ?_ ?_ (pr_W_R h)
  · intro s hs
    unfold pg_S at hs ⊢
    simp only [Bool.and_eq_true] at hs ⊢
    exact ⟨⟨hs.1.1, rfl⟩, rfl⟩
  · intro a b he
    unfold pg_E at he ⊢
    simp only [Bool.and_eq_true] at he ⊢
    exact ⟨he.1, rfl⟩
set_option maxRecDepth 8192 in
theorem dm_inv0 (w : pa_wf A) {F : Nat → Bool} (hF : ∀ o, o < 40 → F o = pg_b A pg_0 pg_00 pg_0 o) : dm_inv A 0 (true, dm_D0 A F) := by
  have hroot : ∀ o, o < 40 → pa_r A o = true → pg_b A pg_0 pg_00 pg_0 o = true := fun o ho h => pr_b_iff.mpr (pr_start (by unfold pg_S; simp [ho, h, pg_0]))
  refine ⟨?_, ?_, ?_, fun h => by cases h⟩
  · intro o a ho ha hd
    show dm_D0 A F o a = true
    unfold dm_D0
    have hRo := pd_R hd
    have hRa : pg_b A pg_0 pg_00 pg_0 a = true := by
      cases e : pg_b A pg_0 pg_00 pg_0 a
      · exfalso
        have hn := pr_b_not.mp e
        unfold pd_D at hd
        simp only [Bool.and_eq_true, Bool.not_eq_true'] at hd
        apply pr_b_not.mp hd.2
        have hR := pr_b_iff.mp hd.1
        have key : pr_R (pg_E A pg_0 pg_00) (pg_S A pg_0 pg_0) o ∧ pr_R (pg_E A (fun x => decide (x = a)) pg_00) (pg_S A (fun x => decide (x = a)) pg_0) o := by
          refine hR (fun o => pr_R (pg_E A pg_0 pg_00) (pg_S A pg_0 pg_0) o ∧ pr_R (pg_E A (fun x => decide (x = a)) pg_00) (pg_S A (fun x => decide (x = a)) pg_0) o) ?_ ?_
          · intro s hs
            refine ⟨pr_start hs, pr_start ?_⟩
            have hne : ¬ s = a := fun e => hn (by rw [← e]; exact pr_start hs)
            unfold pg_S at hs ⊢
            simp only [Bool.and_eq_true] at hs ⊢
            exact ⟨hs.1, by simp [hne]⟩
          · rintro x y ⟨h1, h2⟩ he
            refine ⟨pr_step h1 he, pr_step h2 ?_⟩
            have hne : ¬ y = a := fun e => hn (by rw [← e]; exact pr_step h1 he)
            unfold pg_E at he ⊢
            simp only [Bool.and_eq_true] at he ⊢
            exact ⟨he.1, by simp [hne]⟩
        exact key.2
      · rfl
    by_cases e : pa_r A o = true
    · rw [if_pos e]
      by_cases e2 : a = o
      · simp [e2]
      · exfalso
        unfold pd_D at hd
        simp only [Bool.and_eq_true, Bool.not_eq_true'] at hd
        apply pr_b_not.mp hd.2
        apply pr_start
        unfold pg_S
        have : ¬ o = a := fun h => e2 h.symm
        simp [ho, e, pg_0, this]
    · rw [if_neg e, hF o ho, hF a ha, hRo, hRa]
      rfl
  · intro o a ho h
    have h : dm_D0 A F o a = true := h
    unfold dm_D0 at h
    by_cases e : pa_r A o = true
    · exact hroot o ho e
    · rw [if_neg e] at h
      simp only [Bool.and_eq_true] at h
      rw [← hF o ho]
      exact h.1
  · intro d o a hd hw
    have : d = 0 := by omega
    subst this
    have hw : pg_S A (fun x => decide (x = a)) pg_0 o = true := hw
    unfold pg_S at hw
    simp only [Bool.and_eq_true, Bool.not_eq_true', decide_eq_false_iff_not] at hw
    show dm_D0 A F o a = false
    unfold dm_D0
    rw [if_pos hw.1.1.2]
    have : ¬ a = o := fun e => hw.2 e.symm
    simp [this]
set_option maxRecDepth 8192 in
theorem dm_inv_step (w : pa_wf A) {od : Nat → Nat} {n i : Nat} {c : Bool} {D : Nat → Nat → Bool} (hod : ∀ i, i < n → od (i + 1) < 40 ∧ pg_b A pg_0 pg_00 pg_0 (od (i + 1)) = true) (hall : ∀ o, o < 40 → pg_b A pg_0 pg_00 pg_0 o = true → ∃ j, j < n ∧ od (j + 1) = o) (h : dm_inv A i (c, D)) : dm_inv A (i + 1) (dm_round A od n (false, D)) := by
  obtain ⟨h1, h2, h3, -⟩ := h
  simp only at h1 h2 h3
  obtain ⟨q1, q2, q3, q4⟩ := dm_rounds w hod h1
  have hfalse : ∀ o a, D o a = false → (dm_round A od n (false, D)).2 o a = false := by
    intro o a hD
    cases e : (dm_round A od n (false, D)).2 o a
    · rfl
    · have := q2 o a e
      rw [hD] at this
      cases this
  have hedge : ∀ a p o, pg_b A pg_0 pg_00 pg_0 p = true → D p a = false → pg_E A (fun x => decide (x = a)) pg_00 p o = true → (dm_round A od n (false, D)).2 o a = false := by
    intro a p o hp hD he
    obtain ⟨hp40, hne, s, hs, hrf⟩ := pg_E0' he
    obtain ⟨j, hj, ej⟩ := hall p hp40 hp
    cases e : (dm_round A od n (false, D)).2 o a
    · rfl
    · rw [← ej] at hrf hD
      rcases q4 j s o hj hs hrf a e with e2 | e2
      · simp [e2] at hne
      · rw [hD] at e2
        cases e2
  refine ⟨q3, fun o a ho h => h2 o a ho (q2 o a h), ?_, ?_⟩
  · intro d o a hd hw
    cases d with
    | zero => exact hfalse o a (h3 0 o a (by omega) hw)
    | succ d =>
      obtain ⟨p, hp, he⟩ := hw
      exact hedge a p o (pg_ofW w hp) (h3 d p a (by omega) hp) he
  · intro hc d
    induction d with
    | zero =>
      intro o a _ hw
      exact hfalse o a (h3 0 o a (by omega) hw)
    | succ d ih =>
      rintro o a ha ⟨p, hp, he⟩
      have hp40 := (pg_E0' he).1
      have hD : D p a = false := by
        rw [← q1 hc p a hp40 ha]
        exact ih p a ha hp
      exact hedge a p o (pg_ofW w hp) hD he
set_option maxRecDepth 8192 in
theorem dm_fin (w : pa_wf A) {i : Nat} {s : Bool × (Nat → Nat → Bool)} (h : dm_inv A i s) (he : 39 ≤ i ∨ s.1 = false) {o a : Nat} (ho : o < 40) (ha : a < 40) : s.2 o a = pd_D A o a := by
  obtain ⟨h1, h2, h3, h4⟩ := h
  cases e : pd_D A o a
  · cases e2 : s.2 o a
    · rfl
    · exfalso
      have hr := h2 o a ho e2
      unfold pd_D at e
      rw [hr] at e
      simp only [Bool.true_and, Bool.not_eq_false'] at e
      obtain ⟨d, hd⟩ := pr_R_D (pr_b_iff.mp e)
      have hd40 := pr_D_lt (fun s h => pg_S_lt s h) (fun a b h => pg_E_lt w a b h) hd
      have : s.2 o a = false := by
        rcases he with he | he
        · exact h3 d o a (by omega) hd.1
        · exact h4 he d o a ha hd.1
      rw [this] at e2
      cases e2
  · exact h1 o a ho ha e
end DOM
