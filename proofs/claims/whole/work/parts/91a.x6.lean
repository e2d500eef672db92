/-! the class's search -/
def pk_q (q : Nat) : Prop := q = 13 ∨ q = 17
section X6
variable {I : Nat → Nat → Int32} {L : Nat → Nat → Int64} {r : Nat → Option Nat} {A : Nat → Nat → Nat} {q : Nat}
set_option maxRecDepth 8192 in
theorem qO (hq : pk_q q) {α : Type} {x : Option α} : hb_on (pm I L r) q 6 x = x := by rcases hq with e | e <;> subst e; exact pO_13; exact pO_17
set_option maxRecDepth 8192 in
theorem qI3 (hq : pk_q q) : hb_getI (pm I L r) q 6 3 = some (I q 3) := by rcases hq with e | e <;> subst e; exact pI_13_3; exact pI_17_3
set_option maxRecDepth 8192 in
theorem qP3 (hq : pk_q q) {x : Int32} : hb_putI (pm I L r) q 6 3 x = some (pm (up2 I q 3 x) L r) := by rcases hq with e | e <;> subst e; exact pP_13_3; exact pP_17_3
set_option maxRecDepth 8192 in
theorem qI4 (hq : pk_q q) : hb_getL (pm I L r) q 6 4 = some (L q 4) := by rcases hq with e | e <;> subst e; exact pI_13_4; exact pI_17_4
set_option maxRecDepth 8192 in
theorem qP4 (hq : pk_q q) {x : Int64} : hb_putL (pm I L r) q 6 4 x = some (pm I (up2 L q 4 x) r) := by rcases hq with e | e <;> subst e; exact pP_13_4; exact pP_17_4
set_option maxRecDepth 8192 in
theorem qR0 (hq : pk_q q) : hb_getR (pm I L r) q 6 0 = some (q + 1) := by rcases hq with e | e <;> subst e; exact pR_13_0; exact pR_17_0
set_option maxRecDepth 8192 in
theorem qR1 (hq : pk_q q) : hb_getR (pm I L r) q 6 1 = some (q + 2) := by rcases hq with e | e <;> subst e; exact pR_13_1; exact pR_17_1
set_option maxRecDepth 8192 in
theorem qR2 (hq : pk_q q) : hb_getR (pm I L r) q 6 2 = some (q + 3) := by rcases hq with e | e <;> subst e; exact pR_13_2; exact pR_17_2
set_option maxRecDepth 8192 in
theorem qA1 (hq : pk_q q) {j : Nat} (h : j < 40) : hb_iald (pm I L r) (q + 1) (nI j) = some (I (q + 1) j) := by rcases hq with e | e <;> subst e; exact pA_14 h; exact pA_18 h
set_option maxRecDepth 8192 in
theorem qA2 (hq : pk_q q) {j : Nat} (h : j < 40) : hb_iald (pm I L r) (q + 2) (nI j) = some (I (q + 2) j) := by rcases hq with e | e <;> subst e; exact pA_15 h; exact pA_19 h
set_option maxRecDepth 8192 in
theorem qA3 (hq : pk_q q) {j : Nat} (h : j < 40) : hb_iald (pm I L r) (q + 3) (nI j) = some (I (q + 3) j) := by rcases hq with e | e <;> subst e; exact pA_16 h; exact pA_20 h
set_option maxRecDepth 8192 in
theorem qS1 (hq : pk_q q) {j : Nat} {x : Int32} (h : j < 40) : hb_iast (pm I L r) (q + 1) (nI j) x = some (pm (up2 I (q + 1) j x) L r) := by rcases hq with e | e <;> subst e; exact pS_14 h; exact pS_18 h
set_option maxRecDepth 8192 in
theorem qS2 (hq : pk_q q) {j : Nat} {x : Int32} (h : j < 40) : hb_iast (pm I L r) (q + 2) (nI j) x = some (pm (up2 I (q + 2) j x) L r) := by rcases hq with e | e <;> subst e; exact pS_15 h; exact pS_19 h
set_option maxRecDepth 8192 in
theorem qS3 (hq : pk_q q) {j : Nat} {x : Int32} (h : j < 40) : hb_iast (pm I L r) (q + 3) (nI j) x = some (pm (up2 I (q + 3) j x) L r) := by rcases hq with e | e <;> subst e; exact pS_16 h; exact pS_20 h
def pu_fill (I : Nat → Nat → Int32) (a n : Nat) (x : Int32) : Nat → Nat → Int32 := fun b j => if b = a ∧ j < n then x else I b j
set_option maxRecDepth 8192 in
theorem pf_fill {a n : Nat} {x : Int32} (h : pm_Λ[a]? = some (0, n)) (hn : n ≤ 400) : f_J7_fill_53178 a x (pm I L r) = some (pm (pu_fill I a n x) L r) := by
  unfold f_J7_fill_53178
  rw [pm_alen h]
  simp only [pbs]
  have hl := pm_seq (fun k s i => f_J7_fill_53178_b5 k a x (nI i) (nI n) (pm s L r)) (fun i => pu_fill I a i x) n (out := some (pm (pu_fill I a n x) L r)) (by
    intro k i hi
    simp (disch := omega) only [f_J7_fill_53178_b5, pn_le, pm_iast h (show n < 2 ^ 31 from by omega) hi, pbs, plit, nI_add]
    rw [if_neg (show ¬ n ≤ i from by omega)]
    have e : up2 (pu_fill I a i x) a i x = pu_fill I a (i + 1) x := by
      funext b j
      unfold up2 pu_fill
      by_cases e1 : b = a
      · by_cases e2 : j = i
        · rw [if_pos ⟨e1, e2⟩, if_pos ⟨e1, by omega⟩]
        · rw [if_neg (by omega)]
          by_cases e3 : j < i
          · rw [if_pos ⟨e1, e3⟩, if_pos ⟨e1, by omega⟩]
          · rw [if_neg (by omega), if_neg (by omega)]
      · rw [if_neg (by omega), if_neg (by omega), if_neg (by omega)]
    rw [e]) (by
    intro k
    simp (disch := omega) only [f_J7_fill_53178_b5, pn_le, Nat.le_refl, if_true]) hb_FU (Nat.lt_of_le_of_lt hn (by decide))
  have e0 : pu_fill I a 0 x = I := by
    funext b j
    unfold pu_fill
    rw [if_neg (by omega)]
  simp only [e0] at hl
  exact hl
/-- what the search keeps, but for the set -/
def bs_mem (I : Nat → Nat → Int32) (q : Nat) (G : bs_T) : Prop := I q 3 = nI (G.1 - 1) ∧ (∀ j, 1 ≤ j → j < G.1 → I (q + 1) (j - 1) = nI (G.2.1 j)) ∧ ∀ o, o < 40 → I (q + 2) o = mI (G.2.2.1 o) ∧ I (q + 3) o = mI (if G.2.2.1 o = 0 ∨ G.2.2.2 o = 40 then 0 else G.2.2.2 o + 1)
def bs_f (G : bs_T) (o : Nat) : Bool := decide (G.2.2.1 o ≠ 0)
def bs_enc (a : Nat) : Int32 := mI (if a = 40 then 0 else a + 1)
set_option maxRecDepth 8192 in
theorem pb_shr1 (f : Nat → Bool) : ((hb_mk f).toUInt64 >>> ((nI 1).toInt64.toUInt64 &&& Int64.toUInt64 63)).toInt64 = hb_mk (fun j => decide (j + 1 < 40) && f (j + 1)) := by
  unfold hb_mk
  rw [wb_shr (Nat.lt_trans (pb_lt f) (by decide)) (by decide)]
  congr 1
  apply Nat.eq_of_testBit_eq
  intro j
  rw [pb_n_bit, Nat.pow_one, ← Nat.testBit_succ, pb_n_bit]
  by_cases e : j + 1 < 40
  · have : j < 40 := by omega
    simp [e, this]
  · simp [e]
set_option maxRecDepth 8192 in
theorem pb_a1 (f : Nat → Bool) : hb_mk f &&& 1 = lN (pb_b (f 0)) := by
  have h := pb_dm (p := f) (o := 0) (by decide)
  unfold hb_mk
  rw [wb_a1 (Nat.lt_trans (pb_lt f) (by decide)), ← h, Nat.pow_zero, Nat.div_one]
set_option maxRecDepth 8192 in
theorem bs_fold_stay {E : Nat → Nat → Bool} {k i : Nat} {G H : bs_T} (hG : pm_fold (bs_step E k) i G = H) (hz : ∀ j, i ≤ j → j < 40 → ¬ (E (H.2.1 k) j = true ∧ H.2.2.1 j = 0)) : ∀ m, i ≤ m → m ≤ 40 → pm_fold (bs_step E k) m G = H := by
  intro m
  induction m with
  | zero =>
    intro h _
    have : i = 0 := by omega
    rw [← this]
    exact hG
  | succ m ih =>
    intro h1 h2
    by_cases e : i = m + 1
    · rw [← e]
      exact hG
    · show bs_step E k m (pm_fold (bs_step E k) m G) = H
      rw [ih (by omega) (by omega)]
      unfold bs_step
      rw [if_neg (hz m (by omega) (by omega))]
set_option maxRecDepth 8192 in
theorem x6_enter (hq : pk_q q) {E : Nat → Nat → Bool} {k : Nat} {G : bs_T} (hm : bs_mem I q G) (hL : L q 4 = hb_mk (bs_f G)) (hi : bs_inv E k 0 G) : ∃ J, f_X6_enter q (hb_mk (E (G.2.1 k))) (bs_enc (G.2.1 k)) (nI (G.2.2.1 (G.2.1 k))) (pm I L r) = some (pm J (up2 L q 4 (hb_mk (bs_f (bs_place E k G)))) r) ∧ bs_mem J q (bs_place E k G) ∧ ∀ a, (a < q ∨ q + 3 < a) → J a = I a := by
  have hfound : hb_mk (fun j => bs_f G j || (E (G.2.1 k) j && !bs_f G j)) = hb_mk (bs_f (bs_place E k G)) := by
    have hfp := pm_fold_inv (bs_step E k) (fun i H => (H.2.1 k = G.2.1 k ∧ k < H.1) ∧ ∀ o, (H.2.2.1 o ≠ 0 ↔ (G.2.2.1 o ≠ 0 ∨ (o < i ∧ E (G.2.1 k) o = true)))) 40 G ⟨⟨rfl, hi.1.2.2.1⟩, fun o => by simp⟩ (by
      rintro i H h40 ⟨⟨e1, e2⟩, e3⟩
      unfold bs_step
      by_cases c : E (H.2.1 k) i = true ∧ H.2.2.1 i = 0
      · rw [if_pos c]
        refine ⟨⟨?_, ?_⟩, ?_⟩
        · show bs_up H.2.1 H.1 i k = G.2.1 k
          rw [bs_up_ne (by omega)]
          exact e1
        · show k < H.1 + 1
          omega
        · intro o
          show bs_up H.2.2.1 i (H.2.2.1 (H.2.1 k) + 1) o ≠ 0 ↔ _
          by_cases e4 : o = i
          · subst e4
            rw [bs_up_eq]
            rw [e1] at c
            constructor
            · intro _
              exact Or.inr ⟨by omega, c.1⟩
            · intro _
              omega
          · rw [bs_up_ne e4, e3 o]
            constructor
            · rintro (a | ⟨a, b⟩)
              · exact Or.inl a
              · exact Or.inr ⟨by omega, b⟩
            · rintro (a | ⟨a, b⟩)
              · exact Or.inl a
              · exact Or.inr ⟨by omega, b⟩
      · rw [if_neg c]
        refine ⟨⟨e1, e2⟩, ?_⟩
        intro o
        rw [e3 o]
        constructor
        · rintro (a | ⟨a, b⟩)
          · exact Or.inl a
          · exact Or.inr ⟨by omega, b⟩
        · rintro (a | ⟨a, b⟩)
          · exact Or.inl a
          · by_cases e4 : o = i
            · subst e4
              by_cases e5 : H.2.2.1 o = 0
              · exact absurd ⟨by rw [e1]; exact b, e5⟩ c
              · exact (e3 o).mp e5
            · exact Or.inr ⟨by omega, b⟩)
    apply pb_congr
    intro j hj
    apply Bool.eq_iff_iff.mpr
    unfold bs_f bs_place
    have := hfp.2 j
    simp only [Bool.or_eq_true, Bool.and_eq_true, decide_eq_true_eq, Bool.not_eq_true', decide_eq_false_iff_not]
    rw [this]
    constructor
    · rintro (a | ⟨a, b⟩)
      · exact Or.inl a
      · exact Or.inr ⟨hj, a⟩
    · rintro (a | ⟨a, b⟩)
      · exact Or.inl a
      · by_cases c : G.2.2.1 j = 0
        · exact Or.inr ⟨b, by simpa using c⟩
        · exact Or.inl c
  have hnp : ∀ i, hb_mk (fun j => decide (i + 1 + j < 40) && (E (G.2.1 k) (i + 1 + j) && !bs_f G (i + 1 + j))) = hb_mk (fun j => decide (j + 1 < 40) && (decide (i + (j + 1) < 40) && (E (G.2.1 k) (i + (j + 1)) && !bs_f G (i + (j + 1))))) := by
    intro i
    apply pb_congr
    intro j hj
    have e : i + 1 + j = i + (j + 1) := by omega
    rw [e]
    by_cases e2 : i + (j + 1) < 40
    · have : j + 1 < 40 := by omega
      simp [e2, this]
    · simp [e2]
  have hloop := pm_for (fun n (a : (Nat → Nat → Int32) × bs_T) i => f_X6_enter_b26 n q (bs_enc (G.2.1 k)) (nI (G.2.2.1 (G.2.1 k))) (hb_mk (fun j => decide (i + j < 40) && (E (G.2.1 k) (i + j) && !bs_f G (i + j)))) (nI i) (pm a.1 (up2 L q 4 (hb_mk (bs_f (bs_place E k G)))) r)) (fun i a => a.2 = pm_fold (bs_step E k) i G ∧ bs_mem a.1 q a.2 ∧ bs_inv E k i a.2 ∧ (∀ b, (b < q ∨ q + 3 < b) → a.1 b = I b) ∧ (∀ o, i ≤ o → o < 40 → a.2.2.2.1 o = G.2.2.1 o) ∧ a.2.2.1 k = G.2.1 k ∧ a.2.2.2.1 (G.2.1 k) = G.2.2.1 (G.2.1 k)) (fun s => ∃ J, s = pm J (up2 L q 4 (hb_mk (bs_f (bs_place E k G)))) r ∧ bs_mem J q (bs_place E k G) ∧ ∀ a, (a < q ∨ q + 3 < a) → J a = I a) 40 ?_ ?_ hb_FU 0 (I, G) (by decide) (by decide) ⟨rfl, hm, hi, fun _ _ => rfl, fun _ _ _ => rfl, rfl, rfl⟩
  · obtain ⟨s, hs, J, hJ, h1, h2⟩ := hloop
    refine ⟨J, ?_, h1, h2⟩
    rw [← hJ, ← hs]
    unfold f_X6_enter
    simp only [qI4 hq, qP4 hq, pbs, hL]
    rw [pb_anot, pb_or, hfound]
    rfl
  · rintro n ⟨J, H⟩ i hi40 ⟨p1, p2, p3, p4, p5, p6, p7⟩
    simp only at p1 p2 p3 p4 p5 p6 p7 ⊢
    rw [f_X6_enter_b26]
    by_cases z : hb_mk (fun j => decide (i + j < 40) && (E (G.2.1 k) (i + j) && !bs_f G (i + j))) = 0
    · left
      have hstay : bs_place E k G = H := bs_fold_stay p1.symm (fun j h1 h2 hc => by
        have hz := pb_zero.mp z (j - i) (by omega)
        have ej : i + (j - i) = j := by omega
        rw [ej] at hz
        rw [p6] at hc
        have h0 := hc.2
        rw [p5 j h1 h2] at h0
        simp [h2, hc.1, bs_f, h0] at hz) 40 (by omega) (by decide)
      simp (disch := omega) only [plit, pn_le, pb_cmp0, z]
      rw [if_neg (show ¬ 40 ≤ i from by omega), if_pos trivial]
      refine hw_some.mpr ⟨J, rfl, by rw [hstay]; exact p2, p4⟩
    · right
      have hz2 : ¬ lg_cmp (hb_mk (fun j => decide (i + j < 40) && (E (G.2.1 k) (i + j) && !bs_f G (i + j)))) (0 : Int64) = nI 0 := fun h => z (pb_cmp0.mp h)
      have hb0 : (decide (i + 0 < 40) && (E (G.2.1 k) (i + 0) && !bs_f G (i + 0))) = (E (G.2.1 k) i && !bs_f G i) := by
        have : i + 0 < 40 := hi40
        simp [hi40]
      have hfi : bs_f G i = decide (H.2.2.1 i ≠ 0) := by
        unfold bs_f
        rw [p5 i (Nat.le_refl i) hi40]
      have hk := p3.1.2.2.1
      by_cases c : E (H.2.1 k) i = true ∧ H.2.2.1 i = 0
      · have hlt : H.1 - 1 < 40 := by
          have h1 := p3.1.2.2.2
          have h2 : fb_ct (fun o => decide (H.2.2.1 o ≠ 0)) 40 < 40 := by
            have h3 := fb_ct_le (fun o => decide (H.2.2.1 o ≠ 0)) 40
            rcases Nat.lt_or_ge (fb_ct (fun o => decide (H.2.2.1 o ≠ 0)) 40) 40 with h4 | h4
            · exact h4
            · have := (fb_ct_all (p := fun o => decide (H.2.2.1 o ≠ 0)) (n := 40)).mp (by omega) i hi40
              simp [c.2] at this
          omega
        have hc1 : (E (G.2.1 k) i && !bs_f G i) = true := by
          rw [hfi, ← p6, c.1, c.2]
          simp
        refine ⟨(up2 (up2 (up2 (up2 J (q + 1) (H.1 - 1) (nI i)) q 3 (nI (H.1 - 1 + 1))) (q + 2) i (nI (G.2.2.1 (G.2.1 k)))) (q + 3) i (bs_enc (G.2.1 k)), bs_step E k i H), ?_, ?_⟩
        · have hq3 : J q 3 = nI (H.1 - 1) := p2.1
          simp (disch := omega) only [plit, pn_le, hz2, if_false, pb_a1, pb_cmp0, hb0, hc1, qI3 hq, qR0 hq, qS1 hq, qP3 hq, qR1 hq, qR2 hq, qS2 hq, qS3 hq, pbs, hq3, up2_ne, nI_add, f_X6_enter_b96, pb_shr1, hnp]
          rw [if_neg (show ¬ 40 ≤ i from by omega), if_pos (pb_l1.mpr rfl), if_neg (show ¬ 40 ≤ H.1 - 1 from by omega)]
        · have hstep : bs_step E k i H = (H.1 + 1, bs_up H.2.1 H.1 i, bs_up H.2.2.1 i (H.2.2.1 (H.2.1 k) + 1), bs_up H.2.2.2 i (H.2.1 k)) := by
            unfold bs_step
            rw [if_pos c]
          refine ⟨?_, ?_, bs_inv_step p3 hi40, ?_, ?_, ?_, ?_⟩
          · show bs_step E k i H = bs_step E k i (pm_fold (bs_step E k) i G)
            rw [p1]
          · rw [hstep]
            refine ⟨?_, ?_, ?_⟩
            · show _ = nI (H.1 + 1 - 1)
              simp (disch := omega) only [up2_ne, up2_eq]
              congr 1
              omega
            · intro j hj1 hj2
              show _ = nI (bs_up H.2.1 H.1 i j)
              have hj2 : j < H.1 + 1 := hj2
              by_cases e : j = H.1
              · subst e
                simp (disch := omega) only [up2_ne, up2_eq, bs_up_eq]
              · rw [bs_up_ne e]
                simp (disch := omega) only [up2_ne, up2_nj]
                exact p2.2.1 j hj1 (by omega)
            · intro o ho
              show _ = mI (bs_up H.2.2.1 i (H.2.2.1 (H.2.1 k) + 1) o) ∧ _ = mI (if bs_up H.2.2.1 i (H.2.2.1 (H.2.1 k) + 1) o = 0 ∨ bs_up H.2.2.2 i (H.2.1 k) o = 40 then 0 else bs_up H.2.2.2 i (H.2.1 k) o + 1)
              by_cases e : o = i
              · subst e
                simp (disch := omega) only [up2_ne, up2_eq, bs_up_eq, mI_s, p6, p7]
                refine ⟨trivial, ?_⟩
                unfold bs_enc
                congr 1
                by_cases e9 : G.2.1 k = 40
                · simp [e9]
                · simp [e9]
              · simp (disch := omega) only [up2_ne, up2_nj, bs_up_ne]
                exact p2.2.2 o ho
          · intro b hb
            simp only
            funext j
            simp (disch := omega) only [up2_ne]
            rw [p4 b hb]
          · intro o ho1 ho2
            rw [hstep]
            show bs_up H.2.2.1 i _ o = _
            rw [bs_up_ne (by omega)]
            exact p5 o (by omega) ho2
          · rw [hstep]
            show bs_up H.2.1 H.1 i k = _
            rw [bs_up_ne (by omega)]
            exact p6
          · rw [hstep]
            show bs_up H.2.2.1 i (H.2.2.1 (H.2.1 k) + 1) (G.2.1 k) = _
            have hne : G.2.1 k ≠ i := by
              intro e
              rcases Nat.eq_zero_or_pos k with e0 | e0
              · rw [e0, hi.1.1] at e
                omega
              · have := (p3.2.1 k e0 hk).2.1
                rw [p6, e] at this
                exact this c.2
            rw [bs_up_ne hne]
            exact p7
      · have hc1 : (E (G.2.1 k) i && !bs_f G i) = false := by
          rw [hfi, ← p6]
          cases e1 : E (H.2.1 k) i
          · rfl
          · by_cases e2 : H.2.2.1 i = 0
            · exact absurd ⟨e1, e2⟩ c
            · simp [e2]
        have hstep : bs_step E k i H = H := by
          unfold bs_step
          rw [if_neg c]
        refine ⟨(J, H), ?_, ?_⟩
        · simp (disch := omega) only [plit, pn_le, hz2, if_false, pb_a1, pb_cmp0, hb0, hc1, pbs, nI_add, f_X6_enter_b96, pb_shr1, hnp]
          rw [if_neg (show ¬ 40 ≤ i from by omega), if_neg (by decide)]
        · refine ⟨?_, p2, ?_, p4, fun o h1 h2 => p5 o (by omega) h2, p6, p7⟩
          · show H = bs_step E k i (pm_fold (bs_step E k) i G)
            rw [← p1, hstep]
          · have := bs_inv_step p3 hi40
            rw [hstep] at this
            exact this
  · rintro n ⟨J, H⟩ ⟨p1, p2, p3, p4, p5, p6, p7⟩
    simp only at p1 p2 p3 p4 p5 p6 p7 ⊢
    rw [f_X6_enter_b26, if_pos (by decide)]
    exact hw_some.mpr ⟨J, rfl, by unfold bs_place; rw [← p1]; exact p2, p4⟩
end X6
