/-! the reference's whole state; what a call's proof says -/
def mP (I : Nat → Nat → Int32) (P : Nat → Nat → Nat → Nat) (k : Nat → Bool) : Prop := ∀ p, p < 2 → I 136 p = bI (k p) ∧ (k p = true → I 137 p = nI (fb_sm (fun o => if pa_al (P p) o then pa_so (P p) o else 0) 40) ∧ ∀ o, o < 40 → (∀ j, j < 5 → I 135 (520 * p + 13 * o + j) = nI (if P p o 0 = 0 then 0 else P p o j)) ∧ ∀ s, s < 8 → I 135 (520 * p + 13 * o + 5 + s) = nI (if P p o 0 = 0 then 0 else pa_sr (P p) o s))
def mS (I : Nat → Nat → Int32) (A : Nat → Nat → Nat) (n : Nat) (H : Nat → Nat → Nat → Nat) (t : Nat) (T : Nat → Nat) (P : Nat → Nat → Nat → Nat) (k : Nat → Bool) : Prop := pr_row (I 131) A ∧ I 130 3 = nI n ∧ (∀ i, i < n → pr_row (fun j => I 132 (552 * i + j)) (H i)) ∧ (I 130 6 = nI t ∧ ∀ j, j < t → I 134 j = nI (T j)) ∧ mP I P k
/-- what stays, of what the reference keeps -/
def mK (I J : Nat → Nat → Int32) : Prop := (∀ a, (a = 131 ∨ a = 132 ∨ (134 ≤ a ∧ a ≤ 137)) → J a = I a) ∧ J 130 3 = I 130 3 ∧ J 130 6 = I 130 6
def mO (I J : Nat → Nat → Int32) (L K : Nat → Nat → Int64) : Prop := ∀ a, (a < 130 ∨ 147 < a) → J a = I a ∧ K a = L a
def opC (o : Option (Int32 × hb_M)) (I : Nat → Nat → Int32) (L : Nat → Nat → Int64) (c : Nat) (v : Int64) (A : Nat → Nat → Nat) (n : Nat) (H : Nat → Nat → Nat → Nat) (t : Nat) (T : Nat → Nat) (P : Nat → Nat → Nat → Nat) (k : Nat → Bool) (B : Nat) : Prop := ∃ J K r', o = some (nI c, pm J K r') ∧ (c = 0 → K 148 0 = v) ∧ cS J K r' A n H t T P k B ∧ ∀ a, 130 ≤ a → a < 148 → J a = I a ∧ K a = L a
def opM {β : Type} (o : Option (β × hb_M)) (I : Nat → Nat → Int32) (L : Nat → Nat → Int64) (r : Nat → Option Nat) (c : Nat) (v : β) (A : Nat → Nat → Nat) (n : Nat) (H : Nat → Nat → Nat → Nat) (t : Nat) (T : Nat → Nat) (P : Nat → Nat → Nat → Nat) (k : Nat → Bool) : Prop := ∃ v' J K, o = some (v', pm J K r) ∧ (c = 0 → v' = v) ∧ J 130 4 = nI c ∧ mS J A n H t T P k ∧ mO I J L K
/-- a call that may throw: both sides answer alike and stay together -/
def opK {β : Type} (fL : hb_M → Option (Int32 × hb_M)) (fM : hb_M → Option (β × hb_M)) (wd : β → Int64) (I : Nat → Nat → Int32) (L : Nat → Nat → Int64) (r : Nat → Option Nat) (A : Nat → Nat → Nat) (n : Nat) (H : Nat → Nat → Nat → Nat) (t : Nat) (T : Nat → Nat) (P : Nat → Nat → Nat → Nat) (k : Nat → Bool) (B : Nat) : Prop := ∃ c v A' n' H' t' T' P' k', c ≤ 3 ∧ opC (fL (pm I L r)) I L c (wd v) A' n' H' t' T' P' k' (B + 1000) ∧ (∀ J K r', mS J A n H t T P k → opM (fM (pm J K r')) J K r' c v A' n' H' t' T' P' k') ∧ aS A' n' H' t' T' P' k' (B + 1000)
set_option maxRecDepth 8192 in
theorem pr_cong {N M : Nat → Int32} {A : Nat → Nat → Nat} (h : pr_row N A) (e : ∀ j, j < 552 → M j = N j) : pr_row M A := by
  obtain ⟨h1, h2, h3, h4⟩ := h
  refine ⟨by rw [e 0 (by decide)]; exact h1, by rw [e 31 (by decide)]; exact h2, fun c hc => ?_, fun o ho => ⟨fun k hk => ?_, fun s hs => ?_⟩⟩
  · rw [e (1 + c) (by omega), e (11 + c) (by omega), e (21 + c) (by omega)]
    exact h3 c hc
  · rw [e _ (by omega)]
    exact (h4 o ho).1 k hk
  · rw [e _ (by omega)]
    exact (h4 o ho).2 s hs
section OP0
variable {I J : Nat → Nat → Int32} {L K : Nat → Nat → Int64} {r : Nat → Option Nat} {A : Nat → Nat → Nat} {n : Nat} {H : Nat → Nat → Nat → Nat} {t : Nat} {T : Nat → Nat} {P : Nat → Nat → Nat → Nat} {k : Nat → Bool} {B : Nat}
set_option maxRecDepth 8192 in
theorem mP_fr (h : mP I P k) (e : ∀ a, 135 ≤ a → a ≤ 137 → J a = I a) : mP J P k := by
  unfold mP
  rw [e 135 (by omega) (by omega), e 136 (by omega) (by omega), e 137 (by omega) (by omega)]
  exact h
set_option maxRecDepth 8192 in
theorem mS_fr (h : mS I A n H t T P k) (e : mK I J) : mS J A n H t T P k := by
  obtain ⟨h1, h2, h3, h4, h5⟩ := h
  obtain ⟨e1, e2, e3⟩ := e
  refine ⟨by rw [e1 131 (by omega)]; exact h1, by rw [e2]; exact h2, fun i hi => by rw [e1 132 (by omega)]; exact h3 i hi, ⟨by rw [e3]; exact h4.1, fun j hj => by rw [e1 134 (by omega)]; exact h4.2 j hj⟩, mP_fr h5 (fun a _ _ => e1 a (by omega))⟩
set_option maxRecDepth 8192 in
theorem mK_rf {x : Int32} : mK I (up2 I 130 4 x) := ⟨fun _ _ => up2_a (by omega), up2_nj (by decide), up2_nj (by decide)⟩
set_option maxRecDepth 8192 in
theorem mO_rf {x : Int32} : mO I (up2 I 130 4 x) L L := fun _ _ => ⟨up2_a (by omega), rfl⟩
set_option maxRecDepth 8192 in
theorem mK_tr {I1 I2 : Nat → Nat → Int32} (a : mK I I1) (b : mK I1 I2) : mK I I2 := ⟨fun c hc => (b.1 c hc).trans (a.1 c hc), b.2.1.trans a.2.1, b.2.2.trans a.2.2⟩
set_option maxRecDepth 8192 in
theorem mO_tr {I1 I2 : Nat → Nat → Int32} {L1 L2 : Nat → Nat → Int64} (a : mO I I1 L L1) (b : mO I1 I2 L1 L2) : mO I I2 L L2 := fun c hc => ⟨(b c hc).1.trans (a c hc).1, (b c hc).2.trans (a c hc).2⟩
set_option maxRecDepth 8192 in
theorem r9_rf {c : Nat} (hc : c ≤ 100) : f_X9_refused 130 (nI c) (pm I L r) = some (bI (decide (c ≠ 0)), pm (up2 I 130 4 (nI c)) L r) := by
  rw [r9_refused]
  congr 3
  apply decide_eq_decide.mpr
  have : (nI c ≤ nI 0) = (c ≤ 0) := pn_le (by omega) (by decide)
  rw [show (0 : Int32) = nI 0 from rfl, this]
  omega
set_option maxRecDepth 8192 in
theorem mS_row (h : mS I A n H t T P k) : pr_row (I 131) A := h.1
/-! the row is saved -/
set_option maxRecDepth 8192 in
theorem r9_saves (h : mS I A n H t T P k) (hn : n ≤ 5) : ∃ J, f_X9_saves 130 (pm I L r) = some (pm J L r) ∧ mS J A (hS_n n) (hS_H n H A) t T P k ∧ mO I J L L ∧ (∀ j, j ≠ 3 → J 130 j = I 130 j) ∧ J 131 = I 131 := by
  obtain ⟨h1, h2, h3, h4, h5⟩ := h
  have hf : ∀ a, a ≠ 130 → a ≠ 132 → pv_keep I 131 n a = I a := fun a h1 h2 => pv_keep_ne h2 h1
  refine ⟨pv_keep I 131 n, ?_, ⟨by rw [hf 131 (by decide) (by decide)]; exact h1, ?_, ?_, ⟨by rw [pv_keep_f (by decide)]; exact h4.1, fun j hj => by rw [hf 134 (by decide) (by decide)]; exact h4.2 j hj⟩, mP_fr h5 (fun a _ _ => hf a (by omega) (by omega))⟩, fun a ha => ⟨hf a (by omega) (by omega), rfl⟩, fun j hj => pv_keep_f hj, hf 131 (by decide) (by decide)⟩
  · unfold f_X9_saves
    simp only [pR_130_0, pbs, pO_130, r9_keeps (Or.inl rfl) h2 hn]
  · unfold pv_keep hS_n
    by_cases e : n = 5
    · rw [if_pos e, if_pos e]
      unfold pv_kp
      rw [up2_eq]
    · rw [if_neg e, if_neg e]
      unfold pv_kp
      rw [up2_eq]
  · intro i hi
    unfold hS_n at hi
    unfold pv_keep hS_H
    by_cases e : n = 5
    · rw [if_pos e] at hi
      rw [if_pos e, if_pos e]
      by_cases e2 : i = 4
      · rw [if_pos e2]
        subst e2
        have he : (fun j => pv_kp (pv_sh I) 131 4 132 (552 * 4 + j)) = fun j => if j < 552 then I 131 j else pv_sh I 132 (552 * 4 + j) := by
          funext j
          unfold pv_kp
          rw [up2_ne (by decide)]
          by_cases e3 : j < 552
          · rw [if_pos e3, pu_rng_in (by omega) (by omega), pv_sh_ne (by decide) (by decide), show 552 * 4 + j - 552 * 4 = j from by omega]
          · rw [if_neg e3, pu_rng_out (by omega)]
        rw [he]
        exact pr_cong h1 (fun j hj => by rw [if_pos hj])
      · rw [if_neg e2]
        refine pr_cong (h3 (i + 1) (by omega)) (fun j hj => ?_)
        unfold pv_kp pv_sh
        rw [up2_ne (by decide), pu_rng_out (by omega), up2_ne (by decide), pu_rng_in (by omega) (by omega)]
        show I 132 (552 * i + j - 0 + 552) = I 132 (552 * (i + 1) + j)
        rw [show 552 * i + j - 0 + 552 = 552 * (i + 1) + j from by omega]
    · rw [if_neg e] at hi
      rw [if_neg e, if_neg e]
      by_cases e2 : i = n
      · rw [if_pos e2]
        subst e2
        refine pr_cong h1 (fun j hj => ?_)
        unfold pv_kp
        rw [up2_ne (by decide), pu_rng_in (by omega) (by omega), show 552 * i + j - 552 * i = j from by omega]
      · rw [if_neg e2]
        refine pr_cong (h3 i (by omega)) (fun j hj => ?_)
        unfold pv_kp
        rw [up2_ne (by decide), pu_rng_out (by omega)]
end OP0
