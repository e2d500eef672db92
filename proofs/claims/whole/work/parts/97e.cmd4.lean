/-! commands: the reference reads one, and all -/
set_option maxRecDepth 8192 in
theorem eX_t {t : Nat} {T : Nat → Nat} {c : Nat} {s : Nat × Bool} (h : s.2 = true) : eX t T c s = s := by
  obtain ⟨p, f⟩ := s
  simp only at h
  subst h
  simp [eX, tk, tn]
set_option maxRecDepth 8192 in
theorem eN_t {t : Nat} {T : Nat → Nat} {m : Nat} {s : Nat × Bool} (h : s.2 = true) : eN t T m s = s := by
  unfold eN
  rw [h]
  rfl
set_option maxRecDepth 8192 in
theorem eZ_t {t : Nat} {T : Nat → Nat} {s : Nat × Bool} (h : s.2 = true) : eZ t T s = s := by
  unfold eZ
  rw [show tk t T s.1 s.2 45 = false from by rw [h]; simp [tk, tn], eN_t h]
  rfl
set_option maxRecDepth 8192 in
theorem eN_0 {t : Nat} {T : Nat → Nat} {m q : Nat} (h : tc t T m q = 0) : eN t T m (q, false) = (q, true) := by
  unfold eN
  simp [h]
set_option maxRecDepth 8192 in
theorem eN_1 {t : Nat} {T : Nat → Nat} {m q : Nat} (h : tc t T m q ≠ 0) : eN t T m (q, false) = (q + tc t T m q, false) := by
  unfold eN
  simp [h]
set_option maxRecDepth 8192 in
theorem eX_0 {t : Nat} {T : Nat → Nat} {c q : Nat} (h : tl t T q ≠ c + 1) : eX t T c (q, false) = (q, true) := by
  unfold eX
  simp [tk, tn, h]
set_option maxRecDepth 8192 in
theorem eX_1 {t : Nat} {T : Nat → Nat} {c q : Nat} (h : tl t T q = c + 1) : eX t T c (q, false) = (q + 1, false) := by
  unfold eX
  simp [tk, tn, h]
section CMD4
variable {I J : Nat → Nat → Int32} {L K : Nat → Nat → Int64} {r : Nat → Option Nat} {A : Nat → Nat → Nat} {n : Nat} {H : Nat → Nat → Nat → Nat} {t : Nat} {T : Nat → Nat} {P : Nat → Nat → Nat → Nat} {k : Nat → Bool} {B : Nat}
set_option maxRecDepth 8192 in
theorem r9_command (h : rT I t T) (ht : t ≤ 100) (hT : ∀ j, j < t → T j < 128) {c p : Nat} (hc : c < 99) (hp : p < t) (h26 : I 130 26 = nI c) : rG (f_X9_command 130 (nI p) (pm I L r)) I L r t T c p (cc t T p) := by
  have htl : tl t T p = T p + 1 := by unfold tl; rw [if_pos hp]
  have hTp := hT p hp
  obtain ⟨I1, hI1⟩ : ∃ I1, I1 = up2 I 147 (4 * c) (nI (T p)) := ⟨_, rfl⟩
  have f1 : rF I I1 := by rw [hI1]; exact rF_147
  have o1 : I1 147 (4 * c) = nI (T p) := by rw [hI1, up2_eq]
  have q1 : ∀ j, j ≠ 4 * c → I1 147 j = I 147 j := fun j hj => by rw [hI1, up2_nj hj]
  have g1 : I1 130 26 = nI c := by rw [hI1, up2_ne (by decide)]; exact h26
  have h1 := rT_fr h f1
  have hto : to t T p false 3 = (sL 3).contains (T p) := by
    unfold to
    rw [show tn t T p false = T p + 1 from htl]
    simp
  unfold f_X9_command
  simp (disch := omega) only [plit, pO_130, r9_letter h ht (show p < 1000 from by omega), pbs, htl, mI_s, pI_130_26, h26, pR_130_25, pk_mul, pS_147, ← hI1, pn_eq, nI_add]
  have hfail : ∀ (q : Nat) (J : Nat → Nat → Int32), rF I J → (∀ j, (j < 4 * c ∨ 4 * c + 3 < j) → J 147 j = I 147 j) → rG (some (nI q, pm J L r)) I L r t T c p (q, true) := fun q J e1 e2 => ⟨J, nI q, rfl, e1, e2, fun _ => rfl, fun h => by cases h⟩
  -- one digit
  have hone : ∀ (x : Nat), T p = x → x = 97 ∨ x = 110 → rG (f_X9_command_b37 130 (nI (4 * c)) (nI (p + 1)) (pm I1 L r)) I L r t T c p (cc t T p) := by
    intro x ex hx
    have hcc : cc t T p = eX t T 59 (eN t T 1 (p + 1, false)) := by
      unfold cc
      rw [hto, ex]
      rcases hx with h | h <;> subst h <;> rfl
    rw [hcc]
    unfold f_X9_command_b37
    simp (disch := omega) only [plit, pO_130, r9_letter h1 ht (show p + 1 < 1000 from by omega), pbs, r9_digit h1 ht hT, bIn]
    cases e1 : td t T (p + 1)
    · have e0 : tc t T 1 (p + 1) = 0 := by simp [tc, e1]
      rw [eN_0 e0, eX_t rfl]
      exact hfail _ _ f1 (fun j hj => q1 j (by omega))
    · obtain ⟨d1, d2, d3, d4⟩ := td_ex e1
      have e0 : tc t T 1 (p + 1) = 1 := by simp [tc, e1]
      have ev : vN t T 1 (p + 1, false) = T (p + 1) - 48 := by simp [vN, tv, e1]
      have hv1 : nI (T (p + 1)) - nI 48 = nI (T (p + 1) - 48) := nI_dif0 d3
      rw [eN_1 (by omega), e0]
      simp (disch := omega) only [Bool.true_eq_false, if_false, pR_130_25, pbs, d2, mI_s, hv1, nI_add, pS_147]
      refine r9_end h ht hT hc (by omega) (rF_tr f1 rF_147) (fun j hj => by rw [up2_nj (by omega)]; exact q1 j (by omega)) (by rw [up2_ne (by decide)]; exact g1) ⟨by rw [up2_nj (by omega)]; exact o1, fun _ _ => ?_, fun h => by omega, fun h => by omega⟩
      rw [up2_eq]
      unfold cX
      rw [if_pos (by omega), ev]
  -- two or three numbers
  have htwo : ∀ (x m : Nat), T p = x → (x = 43 ∨ x = 45) ∧ m = 2 ∨ x = 115 ∧ m = 3 → rG (f_X9_command_b104 130 (nI (4 * c)) (nI (p + 1)) (nI m) (pm I1 L r)) I L r t T c p (cc t T p) := by
    intro x m ex hx
    obtain ⟨G, hG⟩ : ∃ G, hb_FU = G + 4 := ⟨4092, by decide⟩
    have hcX : cX t T p = tv t T 2 (p + 1) 0 := by
      unfold cX
      rw [if_neg (by omega)]
      rfl
    have hcc : cc t T p = if m = 2 then eX t T 59 (eN t T 2 (c2 t T p)) else eX t T 59 (eZ t T (c3 t T p)) := by
      unfold cc
      rw [hto, ex]
      rcases hx with ⟨h | h, h2⟩ | ⟨h, h2⟩ <;> subst h <;> subst h2 <;> rfl
    have hm3 : m = 2 ∨ m = 3 := by omega
    have hcf : ∀ s, eX t T 59 (eN t T 2 (c2 t T p)) = s → c2 t T p = s → s.2 = true → cc t T p = s := by
      intro s _ e2 e3
      rw [hcc]
      rw [← e2] at e3
      rw [eN_t e3, eX_t e3]
      unfold c3
      rw [eN_t e3, eX_t e3, eZ_t e3, eX_t e3, e2]
      exact ite_self _
    unfold f_X9_command_b104
    rw [hG]
    simp only [plit]
    obtain ⟨a1, a2⟩ := r9_arg (L := L) (r := r) h1 ht hT (F := G + 3) (j := 1) (x5 := m) (q := p + 1) (c := c) (by omega) (by omega) (by omega) (by omega) hc (fun h => by omega)
    by_cases z1 : tc t T 2 (p + 1) = 0
    · obtain ⟨J, j1, j2, j3⟩ := a1 z1
      have e2 : c2 t T p = (p + 1, true) := by unfold c2; rw [eN_0 z1, eX_t rfl]
      rw [j1, hcf (p + 1, true) (by rw [e2, eN_t rfl, eX_t rfl]) e2 rfl]
      exact hfail _ _ (rF_tr f1 j2) (fun j hj => by rw [j3]; exact q1 j (by omega))
    · obtain ⟨J, j1, j2, j3, j4, j5⟩ := a2 z1
      have hb1 := tc_le t T 2 (p + 1)
      have hJ := rT_fr h1 j2
      have fJ := rF_tr f1 j2
      have oJ : J 147 (4 * c) = nI (T p) := by rw [j5 _ (by omega)]; exact o1
      have qJ : ∀ j, (j < 4 * c ∨ 4 * c + 3 < j) → J 147 j = I 147 j := fun j hj => by rw [j5 j (by omega)]; exact q1 j (by omega)
      rw [j1, r9_comma hJ ht hT (by omega) (by omega) (by omega)]
      by_cases z2 : tl t T (p + 1 + tc t T 2 (p + 1)) = 45
      · rw [if_pos z2]
        have e2 : c2 t T p = (p + 1 + tc t T 2 (p + 1) + 1, false) := by unfold c2; rw [eN_1 z1, eX_1 z2]
        obtain ⟨q2, hq2⟩ : ∃ q2, q2 = p + 1 + tc t T 2 (p + 1) + 1 := ⟨_, rfl⟩
        rw [← hq2] at e2 ⊢
        obtain ⟨b1, b2⟩ := r9_arg (L := L) (r := r) hJ ht hT (F := G + 2) (j := 2) (x5 := m) (q := q2) (c := c) (by omega) (by omega) (by omega) (by omega) hc (fun h => by omega)
        by_cases z3 : tc t T 2 q2 = 0
        · obtain ⟨K, k1, k2, k3⟩ := b1 z3
          have e3 : cc t T p = (q2, true) := by
            rw [hcc]
            unfold c3
            rw [e2, eN_0 z3, eX_t rfl, eX_t rfl, eZ_t rfl, eX_t rfl]
            exact ite_self _
          rw [k1, e3]
          exact hfail _ _ (rF_tr fJ k2) (fun j hj => by rw [k3]; exact qJ j hj)
        · obtain ⟨K, k1, k2, k3, k4, k5⟩ := b2 z3
          have hb2 := tc_le t T 2 q2
          have hK := rT_fr hJ k2
          have fK := rF_tr fJ k2
          have oK : K 147 (4 * c) = nI (T p) := by rw [k5 _ (by omega)]; exact oJ
          have xK : K 147 (4 * c + 1) = nI (cX t T p) := by rw [k5 _ (by omega), j4, hcX]
          have yK : K 147 (4 * c + 2) = nI (cY t T p) := by rw [k4]; unfold cY; rw [e2]; rfl
          have qK : ∀ j, (j < 4 * c ∨ 4 * c + 3 < j) → K 147 j = I 147 j := fun j hj => by rw [k5 j (by omega)]; exact qJ j hj
          have gK : K 130 26 = nI c := by rw [k3, j3, g1]
          rw [k1]
          rcases hm3 with hm | hm
          · subst hm
            rw [r9_last (by omega) rfl, hcc, if_pos rfl, e2, eN_1 z3]
            exact r9_end h ht hT hc (by omega) fK qK gK ⟨oK, fun _ _ => xK, fun _ => yK, fun h => by omega⟩
          · subst hm
            rw [hcc, if_neg (by decide), r9_comma hK ht hT (by omega) (by omega) (by omega)]
            by_cases z4 : tl t T (q2 + tc t T 2 q2) = 45
            · rw [if_pos z4]
              have e3 : c3 t T p = (q2 + tc t T 2 q2 + 1, false) := by unfold c3; rw [e2, eN_1 z3, eX_1 z4]
              obtain ⟨q3, hq3⟩ : ∃ q3, q3 = q2 + tc t T 2 q2 + 1 := ⟨_, rfl⟩
              rw [← hq3] at e3 ⊢
              rw [e3]
              by_cases z5 : tl t T q3 = 46
              · have ez : eZ t T (q3, false) = (q3 + 1, false) := by unfold eZ; simp [tk, tn, z5]
                have ev : cZ t T p = 0 := by unfold cZ; rw [e3]; simp [tk, tn, z5]
                have hun : f_X9_command_b109 (G + 2) 130 (nI (4 * c)) (nI q3) (nI 3) (nI 3) (pm K L r) = f_X9_command_b183 (f_X9_command_b109 (G + 1)) 130 (nI (4 * c)) (nI (q3 + 1)) (nI 3) (nI 3) (pm (up2 K 147 (4 * c + 3) (-nI 1)) L r) := by
                  have n33 : (3 < 3) = False := by decide
                  simp (disch := omega) only [f_X9_command_b109, plit, pn_lt, n33, pn_eq, reduceIte, pO_130, r9_letter hK ht (show q3 < 1000 from by omega), pbs, z5, mI_s, pR_130_25, nI_add, pS_147]
                rw [hun, r9_last (by omega) rfl, ez]
                exact r9_end h ht hT hc (by omega) (rF_tr fK rF_147) (fun j hj => by rw [up2_nj (by omega)]; exact qK j hj) (by rw [up2_ne (by decide)]; exact gK) ⟨by rw [up2_nj (by omega)]; exact oK, fun _ _ => by rw [up2_nj (by omega)]; exact xK, fun _ => by rw [up2_nj (by omega)]; exact yK, fun _ => by rw [up2_eq, ev, mI_0]⟩
              · have ez : eZ t T (q3, false) = eN t T 2 (q3, false) := by unfold eZ; simp [tk, tn, z5]
                have ev : cZ t T p = tv t T 2 q3 0 + 1 := by unfold cZ; rw [e3]; simp [tk, tn, z5, vN]
                obtain ⟨d1, d2⟩ := r9_arg (L := L) (r := r) hK ht hT (F := G + 1) (j := 3) (x5 := 3) (q := q3) (c := c) (by omega) (by omega) (by omega) (by omega) hc (fun _ => z5)
                rw [ez]
                by_cases z6 : tc t T 2 q3 = 0
                · obtain ⟨M, m1, m2, m3⟩ := d1 z6
                  rw [m1, eN_0 z6, eX_t rfl]
                  exact hfail _ _ (rF_tr fK m2) (fun j hj => by rw [m3]; exact qK j hj)
                · obtain ⟨M, m1, m2, m3, m4, m5⟩ := d2 z6
                  have hb3 := tc_le t T 2 q3
                  rw [m1, r9_last (by omega) rfl, eN_1 z6]
                  exact r9_end h ht hT hc (by omega) (rF_tr fK m2) (fun j hj => by rw [m5 _ (by omega)]; exact qK j hj) (by rw [m3]; exact gK) ⟨by rw [m5 _ (by omega)]; exact oK, fun _ _ => by rw [m5 _ (by omega)]; exact xK, fun _ => by rw [m5 _ (by omega)]; exact yK, fun _ => by rw [m4, ev, mI_s]⟩
            · rw [if_neg z4]
              have e3 : c3 t T p = (q2 + tc t T 2 q2, true) := by unfold c3; rw [e2, eN_1 z3, eX_0 z4]
              rw [e3, eZ_t rfl, eX_t rfl]
              exact hfail _ _ fK qK
      · rw [if_neg z2]
        have e2 : c2 t T p = (p + 1 + tc t T 2 (p + 1), true) := by unfold c2; rw [eN_1 z1, eX_0 z2]
        rw [hcf _ (by rw [e2, eN_t rfl, eX_t rfl]) e2 rfl]
        exact hfail _ _ fJ qJ
  have hnone : ∀ (x : Nat), T p = x → x = 119 ∨ x = 99 → rG (f_X9_command_b230 130 (nI (p + 1)) (pm I1 L r)) I L r t T c p (cc t T p) := by
    intro x ex hx
    have hcc : cc t T p = eX t T 59 (p + 1, false) := by
      unfold cc
      rw [hto, ex]
      rcases hx with h | h <;> subst h <;> rfl
    rw [hcc]
    exact r9_end h ht hT hc (by omega) f1 (fun j hj => q1 j (by omega)) g1 ⟨o1, fun h1 h2 => by omega, fun h => by omega, fun h => by omega⟩
  by_cases x1 : T p = 110
  · rw [if_pos x1]
    exact hone _ x1 (Or.inr rfl)
  rw [if_neg x1]
  by_cases x2 : T p = 97
  · rw [if_pos x2]
    exact hone _ x2 (Or.inl rfl)
  rw [if_neg x2]
  by_cases x3 : T p = 115
  · rw [if_pos x3, x3]
    unfold f_X9_command_b93
    simp only [plit, reduceIte]
    exact htwo _ 3 x3 (Or.inr ⟨rfl, rfl⟩)
  rw [if_neg x3]
  by_cases x4 : T p = 43
  · rw [if_pos x4, x4]
    unfold f_X9_command_b93
    rw [if_neg (by decide)]
    exact htwo _ 2 x4 (Or.inl ⟨Or.inl rfl, rfl⟩)
  rw [if_neg x4]
  by_cases x5 : T p = 45
  · rw [if_pos x5, x5]
    unfold f_X9_command_b93
    rw [if_neg (by decide)]
    exact htwo _ 2 x5 (Or.inl ⟨Or.inr rfl, rfl⟩)
  rw [if_neg x5]
  by_cases x6 : T p = 119
  · rw [if_pos x6]
    exact hnone _ x6 (Or.inl rfl)
  rw [if_neg x6]
  by_cases x7 : T p = 99
  · rw [if_pos x7]
    exact hnone _ x7 (Or.inr rfl)
  rw [if_neg x7]
  have hcc : cc t T p = (p, true) := by
    unfold cc
    rw [hto, show (sL 3).contains (T p) = false from by simp [sL, x1, x2, x3, x4, x5, x6, x7]]
    rfl
  rw [hcc]
  exact hfail _ _ f1 (fun j hj => q1 j (by omega))
end CMD4
