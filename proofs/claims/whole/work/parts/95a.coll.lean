/-! the reference collects; both sides of collect -/
set_option maxRecDepth 8192 in
theorem pb_l1' {b : Bool} : (lN (pb_b b) = 1) = (b = true) := propext pb_l1
set_option maxRecDepth 8192 in
theorem pb_l0' {b : Bool} : (lN (pb_b b) = 0) = (b = false) := propext pb_l0
set_option maxRecDepth 8192 in
theorem pb_cmpE {x y : Int64} : (lg_cmp x y = nI 0) = (x = y) := propext pb_cmp0
set_option maxRecDepth 8192 in
theorem pg_S_none {A : Nat → Nat → Nat} {W : Nat → Bool} : pg_S A W (pq1 (-nI 1)) = pg_S A W pg_0 := by
  funext s
  unfold pg_S pq1 pg_0
  by_cases e : s < 40
  · have : ¬ nI s = -nI 1 := by
      rw [nI_m1 (by omega)]
      exact fun h => h
    simp [this]
  · simp [e]
set_option maxRecDepth 8192 in
theorem pg_E_none2 {A : Nat → Nat → Nat} {W : Nat → Bool} {y : Int32} : pg_E A W (pq2 (-nI 1) y) = pg_E A W pg_00 := by
  funext a b
  unfold pg_E
  by_cases e : a < 40
  · have : pa_e A (pq2 (-nI 1) y) a b = pa_e A pg_00 a b := by
      unfold pa_e
      congr 1
      apply pq_any_cong
      intro s hs
      have h1 : ¬ nI a = -nI 1 := by
        rw [nI_m1 (by omega)]
        exact fun h => h
      simp [pq2, pg_00, h1]
    rw [this]
  · simp [e]
set_option maxRecDepth 8192 in
theorem pg_b_none {A : Nat → Nat → Nat} {W : Nat → Bool} {y : Int32} : pg_b A W (pq2 (-nI 1) y) (pq1 (-nI 1)) = pg_b A W pg_00 pg_0 := by
  funext o
  unfold pg_b
  rw [pg_E_none2, pg_S_none]
set_option maxRecDepth 8192 in
theorem pa_e_none2 {A : Nat → Nat → Nat} {y : Int32} {o : Nat} (ho : o < 40) : hb_mk (pa_e A (pq2 (-nI 1) y) o) = hb_mk (pa_e A pg_00 o) := by
  apply pb_congr
  intro t ht
  unfold pa_e
  congr 1
  apply pq_any_cong
  intro s hs
  have h1 : ¬ nI o = -nI 1 := by
    rw [nI_m1 (by omega)]
    exact fun h => h
  simp [pq2, pg_00, h1]
section COL
variable {I J : Nat → Nat → Int32} {L K : Nat → Nat → Int64} {r : Nat → Option Nat} {A : Nat → Nat → Nat} {n : Nat} {H : Nat → Nat → Nat → Nat} {t : Nat} {T : Nat → Nat} {P : Nat → Nat → Nat → Nat} {k : Nat → Bool} {B : Nat}
set_option maxRecDepth 8192 in
theorem r9_all (hN : pr_row (I 131) A) (w : pa_wf A) : f_X9_reached 130 (0 : Int64) (-nI 1) (-nI 1) (-nI 1) (pm I L r) = some (hb_mk (px_R A), pm I L r) := by
  have := r9_reached (L := L) (r := r) hN w pg_0 (-nI 1) (-nI 1) (-nI 1)
  rw [pg_b_none, show hb_mk pg_0 = 0 from pb_0] at this
  exact this
set_option maxRecDepth 8192 in
theorem r9_isO2 {o v : Nat} (ho : o < 40) (hv : v < 2 ^ 31) (h : I 131 (32 + 13 * o) = nI v) : f_X9_isObject 130 (nI o) (pm I L r) = some (bI (decide (v ≠ 0)), pm I L r) := by
  unfold f_X9_isObject
  simp (disch := omega) only [pbs, pO_130, pR_130_0, pA_131, pS_131, plit, nI_add, pk_mul, pn_le, pn_lt, if_true, if_false, reduceIte, r9_in, pn_at_nI, Option.isSome_some, bIn, Bool.true_eq_false, r9_at, Nat.add_zero, h, pn_eq]
  by_cases e : v = 0
  · simp [e, bI_f]
  · simp [e, bI_t]
set_option maxRecDepth 8192 in
theorem px_cl (w : pa_wf A) {o s : Nat} (hR : px_R A o = true) (hg : A o 1 ≠ 11) (hs : s < 8) (h : A o (5 + s) ≠ 0) : px_R A (A o (5 + s) - 1) = true := by
  obtain ⟨ho, ha⟩ := pg_b_al w hR
  refine pr_b_iff.mpr (pr_step (pr_b_iff.mp hR) ?_)
  unfold pg_E pa_e pg_0 pg_00
  simp only [Bool.and_eq_true, decide_eq_true_eq, pq_any_iff, Bool.not_false, and_true]
  exact ⟨ho, ⟨by simp [pa_al, ha], hg⟩, s, hs, by omega⟩
set_option maxRecDepth 8192 in
theorem pa_wf_col (w : pa_wf A) : pa_wf (pa_kp A (px_R A)) := pa_wf_kp w (fun _ _ h => (pg_b_al w h).2) (fun _ _ h hg _ hs hne => px_cl w h hg hs hne)
set_option maxRecDepth 8192 in
theorem pa_kp_nx {p : Nat → Bool} : pa_kp A p 40 1 = A 40 1 := by simp [pa_kp]
set_option maxRecDepth 8192 in
theorem r9_collects (hN : pr_row (I 131) A) (w : pa_wf A) : ∃ J, f_X9_collects 130 (pm I L r) = some (nI (fb_sm (fun o => if pa_al A o && !px_R A o then pa_so A o else 0) 40), pm J L r) ∧ pr_row (J 131) (pa_kp A (px_R A)) ∧ ∀ a, a ≠ 131 → J a = I a := by
  obtain ⟨p, hp⟩ : ∃ p, p = px_R A := ⟨_, rfl⟩
  rw [← hp]
  have hal : ∀ o, o < 40 → p o = true → A o 0 ≠ 0 := fun o _ h => by rw [hp] at h; exact (pg_b_al w h).2
  obtain ⟨z, hz⟩ : ∃ z : Int32, z = nI (fb_sm (fun o => if pa_al A o && !p o then pa_so A o else 0) 40) := ⟨_, rfl⟩
  rw [← hz]
  have hrow : ∀ o k, o < 40 → k < 5 → I 131 (32 + 13 * o + k) = nI (A o k) := fun o k ho hk => (hN.2.2.2 o ho).1 k hk
  have hsl : ∀ o s, o < 40 → s < 8 → I 131 (32 + 13 * o + (5 + s)) = mI (A o (5 + s)) := fun o s ho hs => by
    have := (hN.2.2.2 o ho).2 s hs
    rw [← Nat.add_assoc]
    exact this
  have hk0 : ∀ o k, o < 40 → p o = true → k ≠ 3 → k ≠ 5 → pa_kp A p o k = A o k := fun o k ho hpo h3 h5 => by
    unfold pa_kp
    rw [if_pos ho, hpo]
    simp only [Bool.true_eq_false, if_false]
    by_cases e : A o 0 = 0
    · simp [e]
    · rw [if_neg e, if_neg h3, if_neg (by omega)]
  have hk3 : ∀ o, o < 40 → p o = true → pa_kp A p o 3 = if A o 3 < 99 then A o 3 + 1 else A o 3 := fun o ho hpo => by
    have := hal o ho hpo
    unfold pa_kp
    rw [if_pos ho, hpo]
    simp [this]
  have hk5 : ∀ o, o < 40 → p o = true → pa_kp A p o 5 = if A o 1 = 11 ∧ A o 5 ≠ 0 ∧ p (A o 5 - 1) = false then 0 else A o 5 := fun o ho hpo => by
    have := hal o ho hpo
    unfold pa_kp
    rw [if_pos ho, hpo]
    simp [this]
  obtain ⟨fin, hfin⟩ : ∃ fin : Nat → Nat → Int32, fin = fun o k => if p o = true then (if k < 5 then nI (pa_kp A p o k) else mI (pa_kp A p o k)) else if k = 0 then nI 0 else I 131 (32 + 13 * o + k) := ⟨_, rfl⟩
  -- the third loop
  have h3 : ∀ K : Nat → Nat → Int32, (∀ a, a ≠ 131 → K a = I a) → (∀ j, j < 32 → K 131 j = I 131 j) → (∀ o k, o < 40 → k < 13 → K 131 (32 + 13 * o + k) = if p o = false ∧ k = 0 then nI 0 else I 131 (32 + 13 * o + k)) → pw_w (f_X9_collects_b99 hb_FU 130 z (nI 0) (pm K L r)) (fun s => ∃ J, s = (z, pm J L r) ∧ pr_row (J 131) (pa_kp A p) ∧ ∀ a, a ≠ 131 → J a = I a) := by
    intro K k1 k2 k3
    refine pm_for (fun n (J : Nat → Nat → Int32) i => f_X9_collects_b99 n 130 z (nI i) (pm J L r)) (fun i J => (∀ a, a ≠ 131 → J a = I a) ∧ (∀ j, j < 32 → J 131 j = I 131 j) ∧ (∀ o k, o < 40 → k < 13 → J 131 (32 + 13 * o + k) = if o < i then fin o k else if p o = false ∧ k = 0 then nI 0 else I 131 (32 + 13 * o + k))) (fun s => ∃ J, s = (z, pm J L r) ∧ pr_row (J 131) (pa_kp A p) ∧ ∀ a, a ≠ 131 → J a = I a) 40 ?_ ?_ hb_FU 0 K (by decide) (by decide) ⟨k1, k2, fun o k ho hk => by rw [if_neg (Nat.not_lt_zero o)]; exact k3 o k ho hk⟩
    · rintro n J i hi ⟨j1, j2, j3⟩
      right
      have hser : ∀ t, t < 40 → J 131 (32 + 13 * t) = nI (if p t = true then A t 0 else 0) := by
        intro t ht
        have := j3 t 0 ht (by decide)
        rw [Nat.add_zero] at this
        rw [this, hfin]
        cases hpt : p t
        · simp [hpt]
        · have h0 := hrow t 0 ht (by decide)
          rw [Nat.add_zero] at h0
          simp only [hk0 t 0 ht hpt (by decide) (by decide), if_true, Bool.true_eq_false, false_and, if_false, Nat.add_zero, h0, show (0 : Nat) < 5 from by decide]
          split <;> rfl
      have hs0 : ∀ t, t < 40 → (if p t = true then A t 0 else 0) < 2 ^ 31 := by
        intro t ht
        have := pa_s0 w ht
        split <;> omega
      have hob : ∀ (J2 : Nat → Nat → Int32) (t : Nat), t < 40 → J2 131 (32 + 13 * t) = J 131 (32 + 13 * t) → f_X9_isObject 130 (nI t) (pm J2 L r) = some (bI (p t), pm J2 L r) := by
        intro J2 t ht e
        rw [r9_isO2 ht (hs0 t ht) (by rw [e]; exact hser t ht)]
        congr 3
        cases hpt : p t
        · simp
        · simp [hal t ht hpt]
      have hnext : ∀ J2 : Nat → Nat → Int32, (∀ a, a ≠ 131 → J2 a = J a) → (∀ j, j < 32 → J2 131 j = J 131 j) → (∀ o k, o < 40 → k < 13 → o ≠ i → J2 131 (32 + 13 * o + k) = J 131 (32 + 13 * o + k)) → (∀ k, k < 13 → J2 131 (32 + 13 * i + k) = fin i k) → (∀ a, a ≠ 131 → J2 a = I a) ∧ (∀ j, j < 32 → J2 131 j = I 131 j) ∧ (∀ o k, o < 40 → k < 13 → J2 131 (32 + 13 * o + k) = if o < i + 1 then fin o k else if p o = false ∧ k = 0 then nI 0 else I 131 (32 + 13 * o + k)) := by
        intro J2 a1 a2 a3 a4
        refine ⟨fun a ha => by rw [a1 a ha, j1 a ha], fun j hj => by rw [a2 j hj, j2 j hj], fun o k ho hk => ?_⟩
        by_cases e : o = i
        · subst e
          rw [if_pos (by omega)]
          exact a4 k hk
        · rw [a3 o k ho hk e, j3 o k ho hk]
          have he : (o < i + 1) = (o < i) := propext ⟨fun _ => by omega, fun _ => by omega⟩
          simp only [he]
      cases hpi : p i
      · refine ⟨J, ?_, hnext J (fun _ _ => rfl) (fun _ _ => rfl) (fun _ _ _ _ _ => rfl) ?_⟩
        · simp (disch := omega) only [f_X9_collects_b99, f_X9_collects_b211, plit, pn_le, pO_130, hob J i hi rfl, hpi, pbs, bIn, if_true, nI_add]
          rw [if_neg (show ¬ 40 ≤ i from by omega)]
        · intro k hk
          rw [j3 i k hi hk, if_neg (Nat.lt_irrefl i), hfin]
          simp only [hpi, Bool.false_eq_true, if_false, true_and]
      · have hA := hal i hi hpi
        have hg := pa_gr w hi hA
        obtain ⟨-, h99, -, hslw⟩ := w.2.2.2.1 i hi hA
        have hcur : ∀ k, k < 13 → J 131 (32 + 13 * i + k) = I 131 (32 + 13 * i + k) := fun k hk => by
          rw [j3 i k hi hk, if_neg (Nat.lt_irrefl i), hpi]
          simp
        have c1 : J 131 (32 + 13 * i + 1) = nI (A i 1) := by rw [hcur 1 (by decide)]; exact hrow i 1 hi (by decide)
        have c3 : J 131 (32 + 13 * i + 3) = nI (A i 3) := by rw [hcur 3 (by decide)]; exact hrow i 3 hi (by decide)
        have c5 : J 131 (32 + 13 * i + 5) = mI (A i 5) := by rw [hcur 5 (by decide)]; exact hsl i 0 hi (by decide)
        have h540 : A i 5 ≤ 40 := (hslw 0 (by decide)).2.1
        have hage : ∀ J2 : Nat → Nat → Int32, J2 131 (32 + 13 * i + 3) = nI (A i 3) → f_X9_collects_b174 (f_X9_collects_b99 n) 130 z (nI i) (pm J2 L r) = f_X9_collects_b99 n 130 z (nI (i + 1)) (pm (up2 J2 131 (32 + 13 * i + 3) (nI (pa_kp A p i 3))) L r) := by
          intro J2 e
          unfold f_X9_collects_b174
          simp (disch := omega) only [pbs, pO_130, pR_130_0, pA_131, pS_131, plit, nI_add, pk_mul, pn_le, pn_lt, if_true, if_false, reduceIte, r9_at, e, f_X9_collects_b209, f_X9_collects_b211]
          rw [hk3 i hi hpi]
          by_cases e9 : A i 3 < 99
          · rw [if_neg (by omega), if_pos e9]
          · rw [if_pos (by omega), if_neg e9]
            simp only [Nat.add_zero]
        have hgoal : ∀ J2 : Nat → Nat → Int32, (∀ a, a ≠ 131 → J2 a = J a) → (∀ j, j ≠ 32 + 13 * i + 5 → J2 131 j = J 131 j) → J2 131 (32 + 13 * i + 5) = mI (pa_kp A p i 5) → (∀ a, a ≠ 131 → up2 J2 131 (32 + 13 * i + 3) (nI (pa_kp A p i 3)) a = I a) ∧ (∀ j, j < 32 → up2 J2 131 (32 + 13 * i + 3) (nI (pa_kp A p i 3)) 131 j = I 131 j) ∧ (∀ o k, o < 40 → k < 13 → up2 J2 131 (32 + 13 * i + 3) (nI (pa_kp A p i 3)) 131 (32 + 13 * o + k) = if o < i + 1 then fin o k else if p o = false ∧ k = 0 then nI 0 else I 131 (32 + 13 * o + k)) := by
          intro J2 a1 a2 a3
          refine hnext _ (fun a ha => by rw [up2_a ha, a1 a ha]) (fun j hj => by rw [up2_nj (by omega), a2 j (by omega)]) (fun o k ho hk hne => by rw [up2_nj (by omega), a2 _ (by omega)]) ?_
          intro k hk
          rw [hfin]
          simp only [hpi, if_true]
          by_cases e3 : k = 3
          · subst e3
            rw [up2_eq, if_pos (by decide)]
          · rw [up2_nj (by omega)]
            by_cases e5 : k = 5
            · subst e5
              rw [a3, if_neg (by decide)]
            · rw [a2 _ (by omega), hcur k hk, hk0 i k hi hpi e3 e5]
              by_cases e6 : k < 5
              · rw [if_pos e6]
                exact hrow i k hi e6
              · rw [if_neg e6]
                have := hsl i (k - 5) hi (by omega)
                rw [show 5 + (k - 5) = k from by omega] at this
                exact this
        have hpre : ∀ (X : Option (Int32 × hb_M)), ((hb_on (pm J L r) 130 9 (f_X9_isObject 130 (nI i) (pm J L r))) = some (nI 1, pm J L r)) := by
          intro _
          rw [pO_130, hob J i hi rfl, hpi, bI_t]
        have hisO : f_X9_isObject 130 (nI i) (pm J L r) = some (bI true, pm J L r) := by
          rw [hob J i hi rfl, hpi]
        by_cases e11 : A i 1 = 11
        · by_cases e50 : A i 5 = 0
          · refine ⟨_, ?_, hgoal J (fun _ _ => rfl) (fun _ _ => rfl) (by rw [c5, hk5 i hi hpi, if_neg (by omega)])⟩
            simp (disch := omega) only [f_X9_collects_b99, pbs, pO_130, pR_130_0, pA_131, pS_131, plit, nI_add, pk_mul, pn_le, pn_lt, if_true, if_false, reduceIte, hisO, bIn, Bool.true_eq_false, r9_at, c5, c1, e11, mI_none, e50, hage J c3]
            rw [if_neg (show ¬ 40 ≤ i from by omega)]
          · obtain ⟨q, hq⟩ : ∃ q, A i 5 = q + 1 := ⟨A i 5 - 1, by omega⟩
            have hoq := hob J q (by omega) rfl
            cases hpq : p q
            · refine ⟨_, ?_, hgoal (up2 J 131 (32 + 13 * i + 5) (-nI 1)) (fun a ha => up2_a ha) (fun j hj => up2_nj hj) (by rw [up2_eq, hk5 i hi hpi, if_pos ⟨e11, e50, by rw [hq, Nat.add_sub_cancel]; exact hpq⟩, mI_0])⟩
              rw [hpq] at hoq
              have hne : ¬ (q + 1 = 0) := by omega
              simp (disch := omega) only [f_X9_collects_b99, pbs, pO_130, pR_130_0, pA_131, pS_131, plit, nI_add, pk_mul, pn_le, pn_lt, if_true, if_false, reduceIte, hisO, bIn, Bool.true_eq_false, r9_at, c5, c1, e11, hq, mI_s, nI_m1, hoq]
              rw [if_neg (show ¬ 40 ≤ i from by omega), hage _ (by rw [up2_nj (by omega)]; exact c3)]
            · refine ⟨_, ?_, hgoal J (fun _ _ => rfl) (fun _ _ => rfl) (by rw [c5, hk5 i hi hpi, if_neg (by rw [hq, Nat.add_sub_cancel, hpq]; simp)])⟩
              rw [hpq] at hoq
              have hne : ¬ (q + 1 = 0) := by omega
              simp (disch := omega) only [f_X9_collects_b99, pbs, pO_130, pR_130_0, pA_131, pS_131, plit, nI_add, pk_mul, pn_le, pn_lt, if_true, if_false, reduceIte, hisO, bIn, Bool.true_eq_false, r9_at, c5, c1, e11, hq, mI_s, nI_m1, hoq, hage J c3]
              rw [if_neg (show ¬ 40 ≤ i from by omega)]
        · refine ⟨_, ?_, hgoal J (fun _ _ => rfl) (fun _ _ => rfl) (by rw [c5, hk5 i hi hpi, if_neg (by omega)])⟩
          simp (disch := omega) only [f_X9_collects_b99, pbs, pO_130, pR_130_0, pA_131, pS_131, plit, nI_add, pk_mul, pn_le, pn_lt, if_true, if_false, reduceIte, hisO, bIn, Bool.true_eq_false, r9_at, c5, c1, pn_eq, e11, hage J c3]
          rw [if_neg (show ¬ 40 ≤ i from by omega)]
    · rintro n J ⟨j1, j2, j3⟩
      rw [f_X9_collects_b99, if_pos (by decide)]
      refine hw_some.mpr ⟨J, rfl, ⟨?_, ?_, ?_, ?_⟩, j1⟩
      · rw [j2 0 (by decide), show pa_kp A p 40 0 = A 40 0 from by simp [pa_kp]]
        exact hN.1
      · rw [j2 31 (by decide), show pa_kp A p 40 1 = A 40 1 from by simp [pa_kp]]
        exact hN.2.1
      · intro c hc
        rw [j2 (1 + c) (by omega), j2 (11 + c) (by omega), j2 (21 + c) (by omega), show pa_kp A p 41 c = A 41 c from by simp [pa_kp], show pa_kp A p 42 c = A 42 c from by simp [pa_kp], show pa_kp A p 43 c = A 43 c from by simp [pa_kp]]
        exact hN.2.2.1 c hc
      · intro o ho
        refine ⟨fun k hk => ?_, fun s hs => ?_⟩
        · rw [j3 o k ho (by omega), if_pos ho, hfin]
          cases hpo : p o
          · simp only [Bool.false_eq_true, if_false]
            by_cases e : k = 0
            · rw [if_pos e, e]
              congr 1
              unfold pa_kp
              rw [if_pos ho, hpo]
              simp
            · rw [if_neg e, hrow o k ho hk]
              congr 1
              unfold pa_kp
              rw [if_pos ho, hpo]
              simp [e]
          · simp only [hpo, if_true, hk]
        · rw [Nat.add_assoc (32 + 13 * o), j3 o (5 + s) ho (by omega), if_pos ho, hfin]
          cases hpo : p o
          · simp only [Bool.false_eq_true, if_false, show ¬ 5 + s = 0 from by omega]
            rw [hsl o s ho hs]
            congr 1
            unfold pa_kp
            rw [if_pos ho, hpo]
            simp [show ¬ 5 + s = 0 from by omega]
          · simp only [hpo, if_true, show ¬ 5 + s < 5 from by omega, if_false]
  -- the second loop
  have h2 : pw_w (f_X9_collects_b59 hb_FU 130 (hb_mk p) z (nI 0) (pm I L r)) (fun s => ∃ J, s = (z, pm J L r) ∧ pr_row (J 131) (pa_kp A p) ∧ ∀ a, a ≠ 131 → J a = I a) := by
    refine pm_for (fun n (J : Nat → Nat → Int32) i => f_X9_collects_b59 n 130 (hb_mk p) z (nI i) (pm J L r)) (fun i J => (∀ a, a ≠ 131 → J a = I a) ∧ (∀ j, j < 32 → J 131 j = I 131 j) ∧ (∀ o k, o < 40 → k < 13 → J 131 (32 + 13 * o + k) = if o < i ∧ p o = false ∧ k = 0 then nI 0 else I 131 (32 + 13 * o + k))) _ 40 ?_ ?_ hb_FU 0 I (by decide) (by decide) ⟨fun _ _ => rfl, fun _ _ => rfl, fun o k _ _ => by rw [if_neg (by omega)]⟩
    · rintro n J i hi ⟨j1, j2, j3⟩
      right
      cases hpi : p i
      · refine ⟨up2 J 131 (32 + 13 * i + 0) (nI 0), ?_, fun a ha => by rw [up2_a ha, j1 a ha], fun j hj => by rw [up2_nj (by omega), j2 j hj], fun o k ho hk => ?_⟩
        · simp (disch := omega) only [f_X9_collects_b59, f_X9_collects_b90, pbs, pO_130, pR_130_0, pA_131, pS_131, plit, nI_add, pk_mul, pn_le, pn_lt, if_true, if_false, reduceIte, pb_cS hi, pb_cmpE, pb_l0', hpi, r9_at]
          rw [if_neg (show ¬ 40 ≤ i from by omega)]
        · by_cases e : o = i ∧ k = 0
          · rw [e.1, e.2, up2_eq, if_pos ⟨by omega, hpi, rfl⟩]
          · rw [up2_nj (by omega), j3 o k ho hk]
            by_cases e2 : o < i ∧ p o = false ∧ k = 0
            · rw [if_pos e2, if_pos ⟨by omega, e2.2⟩]
            · rw [if_neg e2, if_neg (fun h => e2 ⟨by omega, h.2⟩)]
      · refine ⟨J, ?_, j1, j2, fun o k ho hk => ?_⟩
        · simp (disch := omega) only [f_X9_collects_b59, f_X9_collects_b90, plit, pn_le, pb_cS hi, pb_cmpE, pb_l0', hpi, Bool.true_eq_false, if_false, nI_add]
          rw [if_neg (show ¬ 40 ≤ i from by omega)]
        · rw [j3 o k ho hk]
          by_cases e2 : o < i ∧ p o = false ∧ k = 0
          · rw [if_pos e2, if_pos ⟨by omega, e2.2⟩]
          · rw [if_neg e2, if_neg (fun h => e2 ⟨by
              have : o ≠ i := fun e => by rw [e, hpi] at h; exact absurd h.2.1 (by decide)
              omega, h.2⟩)]
    · rintro n J ⟨j1, j2, j3⟩
      rw [f_X9_collects_b59, if_pos (by decide)]
      refine h3 J j1 j2 (fun o k ho hk => ?_)
      rw [j3 o k ho hk]
      simp only [ho, true_and]
  obtain ⟨b, hb1, J, hb2, hb3, hb4⟩ := h2
  refine ⟨J, ?_, hb3, hb4⟩
  rw [← hb2, ← hb1]
  have hl := pm_loop (fun n a i => f_X9_collects_b14 n 130 (hb_mk p) a (nI i) (pm I L r)) (fun i a => a + nI (if pa_al A i && !p i then pa_so A i else 0)) 40 (out := fun a => f_X9_collects_b59 hb_FU 130 (hb_mk p) a (nI 0) (pm I L r)) (by
    intro n a i hi
    simp (disch := omega) only [f_X9_collects_b14, f_X9_collects_b50, plit, pn_le, pO_130, pbs, r9_isObj hN w hi, bIn, pb_cS hi, pb_cmpE, pb_l0', nI_add]
    rw [if_neg (show ¬ 40 ≤ i from by omega)]
    have ha0 : a + nI 0 = a := Int32.add_zero a
    by_cases e : A i 0 = 0
    · simp [pa_al, e, ha0]
    · have e1 : pa_al A i = true := by simp [pa_al, e]
      rw [e1, r9_sizeOf hN w hi e]
      cases p i
      · simp
      · simp [ha0]) (by
    intro n a
    rw [f_X9_collects_b14, if_pos (by decide)]
    rfl) (nI 0) hb_FU (by decide)
  rw [pm_fold_sum, Nat.zero_add, ← hz] at hl
  rw [← hl]
  unfold f_X9_collects
  simp only [plit, pO_130, r9_all hN w, pbs, ← hp]
set_option maxRecDepth 8192 in
theorem x0_garbage (hC : cS I L r A n H t T P k B) (hA : aS A n H t T P k B) : ∃ J K, f_X0_removeGarbage 12 (pm I L r) = some (nI (fb_sm (fun o => if pa_al A o && !px_R A o then pa_so A o else 0) 40), pm J K r) ∧ cS J K r (pa_kp A (px_R A)) n H t T P k (B + 1) ∧ ∀ a, 28 < a → J a = I a ∧ K a = L a := by
  have w := hA.2.1
  have hB0 := hA.1
  obtain ⟨J, K, e1, e2, e3, e4⟩ := cS_refresh hC hA
  obtain ⟨J2, f1, f2, f3, f4⟩ := x4_removeAllBut (I := J) (L := K) (r := r) hp_1 e2.1 w (p := px_R A) (fun o _ h => (pg_b_al w h).2)
  refine ⟨J2, K, ?_, cS_heap e2 (by omega) f2 f3 (fun a ha => f4 a (by omega)), fun a ha => ⟨by rw [f4 a (by omega), (e4 a (by omega)).1], (e4 a (by omega)).2⟩⟩
  unfold f_X0_removeGarbage
  simp only [pO_12, e1, pbs, pR_12_0, pR_12_1, pI_13_4, e3.2.2.1, pO_h hp_1, f1]
set_option maxRecDepth 8192 in
theorem od_collect (hC : cS I L r A n H t T P k B) (hA : aS A n H t T P k B) (hB : B + 1000 < 2 ^ 29) : opD (fun σ => f_X8_collect 0 σ) (fun σ => f_X9_collect 130 σ) I L r A n H t T P k B := by
  have w := hA.2.1
  have hA0 := hA.2.2.1
  refine ⟨nI (fb_sm (fun o => if pa_al A o && !px_R A o then pa_so A o else 0) 40), pa_kp A (px_R A), hS_n n, hS_H n H A, t, T, P, k, ?_, ?_, aS_heap (aS_save hA) (pa_wf_col w) (by rw [pa_kp_nx]; omega) hB⟩
  · obtain ⟨J, r', e1, e2, e3⟩ := x5_save hC w
    obtain ⟨J2, K2, f1, f2, f3⟩ := x0_garbage e2 (aS_save hA)
    refine ⟨J2, K2, r', ?_, cS_le f2 (by omega), fun a a1 _ => ⟨by rw [(f3 a (by omega)).1, e3 a (by omega)], (f3 a (by omega)).2⟩⟩
    unfold f_X8_collect
    simp only [pR_0_2, pR_0_0, pR_0_1, pbs, pO_29, e1, pO_12, f1]
  · intro J K r' hJ
    obtain ⟨J1, e1, e2, e3, e4, e5⟩ := r9_saves (L := K) (r := r') (mS_fr hJ (mK_rf (x := nI 0))) hA.2.2.2.1
    obtain ⟨J2, f1, f2, f3⟩ := r9_collects (L := K) (r := r') e2.1 w
    refine ⟨J2, K, ?_, mS_now e2 f2 f3, fun a ha => ⟨by rw [f3 a (by omega), (e3 a ha).1, up2_a (by omega)], rfl⟩⟩
    unfold f_X9_collect
    simp only [plit, pP_130_4, pbs, pO_130, e1, f1]
end COL
