/-! commands: execute, both -/
section EXE2
variable {I J : Nat → Nat → Int32} {L K : Nat → Nat → Int64} {r : Nat → Option Nat} {A : Nat → Nat → Nat} {n : Nat} {H : Nat → Nat → Nat → Nat} {t : Nat} {T : Nat → Nat} {P : Nat → Nat → Nat → Nat} {k : Nat → Bool} {B : Nat}
set_option maxRecDepth 8192 in
theorem od_execute (hC : cS I L r A n H t T P k B) (hA : aS A n H t T P k B) (hB : B + 1000 < 2 ^ 29) : opD (fun σ => f_X8_execute 0 σ) (fun σ => f_X9_execute 130 σ) I L r A n H t T P k B := by
  obtain ⟨aB, w, a2, a3, a4, ht, hT, a7⟩ := hA
  have hA : aS A n H t T P k B := ⟨aB, w, a2, a3, a4, ht, hT, a7⟩
  obtain ⟨M, hM, hs, hi⟩ := sQ_ex t T ht
  have hbd : (sQ t T M).1 < 1000 := by
    cases M with
    | zero => exact (by decide : 0 < 1000)
    | succ m =>
      have := cc_le t T (sQ t T m).1
      have h2 := (hi m (by omega)).2.1
      show (cc t T (sQ t T m).1).1 < 1000
      omega
  obtain ⟨c1, c2, ⟨π, c3⟩, c4, c5⟩ := hC
  -- the class has read
  obtain ⟨J1, r1, r2, r3, r4⟩ := x1_read (L := L) (r := r) c4 ht hT hM hs hi
  obtain ⟨I1, hI1⟩ : ∃ I1, I1 = ps J1 (sQ t T M) := ⟨_, rfl⟩
  have f1 : ∀ a, (a < 97 ∨ (97 < a ∧ a < 100) ∨ 104 < a) → I1 a = I a := fun a ha => by rw [hI1, ps_a (by omega)]; exact r2 a (by omega)
  have g1 : ∀ a, a ≠ 97 → I1 a = J1 a := fun a ha => by rw [hI1, ps_a ha]
  have t1 : cT I1 t T := by
    refine ⟨?_, fun j hj => ?_⟩
    · rw [hI1]
      show pt J1 (sQ t T M).1 (sQ t T M).2 97 1 = _
      rw [pt_v1, r2 97 (by omega)]
      exact c4.1
    · rw [f1 98 (by omega)]
      exact c4.2 j hj
  have s1 : cS I1 L r A n H t T P k B := ⟨ph_fr c1 (fun a _ _ => f1 a (by omega)), cV_fr c2 (fun a _ => ⟨f1 a (by omega), rfl⟩), ⟨π, cH_fr c3 (fun _ _ => rfl) (fun a _ _ => f1 a (by omega))⟩, t1, cP_fr c5 (fun a _ _ => f1 a (by omega))⟩
  have h71 : I1 100 7 = nI M := by rw [g1 100 (by decide)]; exact r3
  rw [← hI1] at r1
  have p73 : I1 97 3 = bI (sQ t T M).2 := by rw [hI1]; exact ps_v3 _
  have p72 : I1 97 2 = nI (sQ t T M).1 := by rw [hI1]; exact ps_v2 _
  -- the reference reads
  have hrd : ∀ (J : Nat → Nat → Int32) (K : Nat → Nat → Int64) (r' : Nat → Option Nat), mS J A n H t T P k → ∃ J2 v, f_X9_laysCommands 130 (pm (up2 J 130 4 (nI 0)) K r') = some (v, pm J2 K r') ∧ rF (up2 J 130 4 (nI 0)) J2 ∧ mS J2 A n H t T P k ∧ ((sQ t T M).2 = true → v = nI (sQ t T M).1) ∧ ((sQ t T M).2 = false → v = -nI 1 ∧ J2 130 26 = nI M ∧ ∀ j, j < M → cmS t T (sQ t T j).1 (J2 147 (4 * j)) (J2 147 (4 * j + 1)) (J2 147 (4 * j + 2)) (J2 147 (4 * j + 3))) := by
    intro J K r' hJ
    have hJ0 := mS_fr hJ (mK_rf (x := nI 0))
    obtain ⟨J2, v, e1, e2, e3, e4⟩ := r9_laysCommands (L := K) (r := r') (show rT (up2 J 130 4 (nI 0)) t T from hJ0.2.2.2.1) ht hT hM hs hi
    exact ⟨J2, v, e1, e2, mS_fr hJ0 ⟨fun a ha => e2.1 a (by omega) (by omega), e2.2 3 (by decide) (by decide) (by decide), e2.2 6 (by decide) (by decide) (by decide)⟩, e3, e4⟩
  have hfr : ∀ (J J2 : Nat → Nat → Int32), rF (up2 J 130 4 (nI 0)) J2 → ∀ a, a ≠ 130 → a ≠ 147 → J2 a = J a := fun J J2 e a h1 h2 => by rw [e.1 a h1 h2, up2_a h1]
  cases ef : (sQ t T M).2
  · -- all is read
    have hst1 : ∀ j, j < M → (sQ t T j).1 < t ∧ ∀ o x y z, o = J1 101 j → x = J1 102 j → y = J1 103 j → z = J1 104 j → cmS t T (sQ t T j).1 o x y z := by
      intro j hj
      refine ⟨(hi j hj).2.1, fun o x y z e1 e2 e3 e4 => ?_⟩
      rw [e1, e2, e3, e4]
      refine r4 j hj ?_
      by_cases e : j + 1 = M
      · rw [e]; exact ef
      · exact (hi (j + 1) (by omega)).1
    obtain ⟨S, hS, h0, hend⟩ := cW_ex t T A M
    have hw := cW_ok w hT (show A 40 1 + S < 2 ^ 30 from by omega) h0
    have hπ := (c3.2.2.1 n (by have := c3.1; omega))
    -- noted
    obtain ⟨I2, hI2⟩ : ∃ I2, I2 = pu_cp I1 (31 + 11 * π n) 1 := ⟨_, rfl⟩
    have f2 : ∀ a, (a < 29 ∨ 96 < a) → I2 a = I1 a := fun a ha => by
      have := hπ.1
      rw [hI2]
      exact pu_cp_fr a (by omega)
    have h31 : cH I1 r n H π := cH_fr c3 (fun _ _ => rfl) (fun a _ _ => f1 a (by omega))
    have n1 := x5_note (L := L) h31 hp_1 (Or.inl (by decide))
    rw [← hI2] at n1
    have h32 : cH I2 r n H π := by rw [hI2]; exact cH_note h31
    have hsv : ph_rep I2 (31 + 11 * π n) A := by
      have := hπ.1
      rw [hI2]
      exact ph_cp s1.1 w (by omega)
    have s2 : cS I2 L r A n H t T P k B := ⟨ph_fr s1.1 (fun a _ _ => f2 a (by omega)), cV_fr s1.2.1 (fun a _ => ⟨f2 a (by omega), rfl⟩), ⟨π, h32⟩, cT_fr t1 (fun a _ => f2 a (by omega)), cP_fr s1.2.2.2.2 (fun a _ _ => f2 a (by omega))⟩
    have g2 : ∀ a, 97 < a → I2 a = J1 a := fun a ha => by rw [f2 a (by omega), g1 a (by omega)]
    obtain ⟨J3, K3, u1, u2, u3⟩ := x1_run s2 hA hB hM (by rw [f2 100 (by omega)]; exact h71) (fun j hj => ⟨(hst1 j hj).1, (hst1 j hj).2 _ _ _ _ (by rw [g2 101 (by omega)]) (by rw [g2 102 (by omega)]) (by rw [g2 103 (by omega)]) (by rw [g2 104 (by omega)])⟩) hS h0 hend
    have h33 : cH J3 r n H π := cH_fr h32 (fun _ _ => rfl) (fun a _ _ => (u3 a (by omega)).1)
    have hsv3 : ph_rep J3 (31 + 11 * π n) A := ph_fr hsv (fun a _ _ => (u3 a (by omega)).1)
    have fr3 : ∀ a, 130 ≤ a → J3 a = I a ∧ K3 a = L a := fun a ha => ⟨by rw [(u3 a (by omega)).1, f2 a (by omega), f1 a (by omega)], (u3 a (by omega)).2⟩
    have hpre : ∀ (R : Option (Int32 × hb_M)), (if (if S = M then -nI 1 else nI S) = -nI 1 then (f_X5_keepNoted 29 (pm J3 K3 r)).bind fun r13 => (hb_getR r13 0 8 5).bind fun r14 => (hb_getI r13 r14 1 7).bind fun r15 => some (r15, r13) else (f_X5_noted 29 (pm J3 K3 r)).bind fun r18 => (hb_on r18.2 1 4 (f_X4_copyFrom 1 r18.1 r18.2)).bind fun r19 => some (-nI 1000 - (if S = M then -nI 1 else nI S), r19)) = R → f_X8_execute 0 (pm I L r) = R := by
      intro R hR
      rw [← hR]
      unfold f_X8_execute
      simp (disch := omega) only [plit, pR_0_5, pR_0_3, pR_0_2, pR_0_0, pbs, pO_100, r1, pI_97_3, p73, ef, bIn, reduceIte, pO_29, n1, u1]
    rcases hend with e | ⟨e1, e2⟩
    · -- all is done
      subst e
      obtain ⟨J4, r', v1, v2, v3⟩ := x5_keep (L := K3) h33 hsv3
      refine ⟨nI S, cW t T A S, hS_n n, hS_H n H A, t, T, P, k, ⟨J4, K3, r', hpre _ ?_, ⟨ph_fr u2.1 (fun a _ _ => v3 a (by omega)), cV_le (cV_fr u2.2.1 (fun a _ => ⟨v3 a (by omega), rfl⟩)) (by omega), v2, cT_fr u2.2.2.2.1 (fun a _ => v3 a (by omega)), cP_fr u2.2.2.2.2 (fun a _ _ => v3 a (by omega))⟩, fun a ha _ => ⟨by rw [v3 a (by omega)]; exact (fr3 a ha).1, (fr3 a ha).2⟩⟩, ?_, ?_⟩
      · rw [if_pos rfl, if_pos rfl, v1, pbs, pR_0_5, pbs, pI_100_7, pbs, v3 100 (by decide), (u3 100 (by omega)).1, f2 100 (by omega), h71]
      · intro J K r' hJ
        obtain ⟨J2, v, e1, e2, e3, e4, e5⟩ := hrd J K r' hJ
        obtain ⟨x1, x2, x3⟩ := e5 ef
        subst x1
        -- noted
        obtain ⟨J5, hJ5⟩ : ∃ J5, J5 = pu_rng J2 133 0 552 (fun j => J2 131 j) := ⟨_, rfl⟩
        have y1 : ∀ a, a ≠ 133 → J5 a = J2 a := fun a ha => by funext j; rw [hJ5, pu_rng_ne ha]
        have m5 : mS J5 A n H t T P k := mS_fr e3 ⟨fun a ha => y1 a (by omega), by rw [y1 130 (by decide)], by rw [y1 130 (by decide)]⟩
        have y2 : pr_row (J5 133) A := pr_cong e3.1 (fun j hj => by rw [hJ5, pu_rng_in (by omega) (by omega), Nat.sub_zero])
        have hcp := pm_seq (fun q (a : Nat → Nat → Int32) i => f_X9_execute_b22 q 130 (nI i) (pm a K r')) (fun i => pu_rng J2 133 0 i (fun j => J2 131 j)) 552 (out := f_X9_execute_b49 hb_FU 130 (nI 0) (pm J5 K r')) (by
          intro q i hi
          have hu := pu_rng_up J2 133 0 i (fun j => J2 131 j)
          rw [Nat.zero_add] at hu
          simp (disch := omega) only [f_X9_execute_b22, plit, pn_le, pR_130_0, pR_130_2, pbs, pu_rng_ne, nI_add, pA_131, pS_133]
          rw [if_neg (show ¬ 552 ≤ i from by omega), hu]) (by
          intro q
          simp (disch := omega) only [f_X9_execute_b22, plit, pn_le, Nat.le_refl, if_true, ← hJ5]) hb_FU (by decide)
        rw [pu_rng_0] at hcp
        obtain ⟨J6, z1, z2, -⟩ := r9_run (L := K) (r := r') m5.1 y2 w (by omega) hT hM (by rw [y1 130 (by decide)]; exact x2) (fun j hj => ⟨(hi j hj).2.1, by rw [y1 147 (by decide)]; exact x3 j hj⟩) (Nat.le_refl S) h0 (Or.inl rfl)
        obtain ⟨z3, z4⟩ := z2 rfl
        have m6 : mS J6 (cW t T A S) n H t T P k := mS_now m5 z3 z1
        obtain ⟨J7, b1, b2, b3, b4, b5⟩ := r9_keep133 (L := K) (r := r') m6 (show pr_row (J6 133) A from by rw [z1 133 (by decide)]; exact y2) a3
        refine ⟨J7, K, ?_, b2, fun a ha => ⟨by rw [(b3 a ha).1, z1 a (by omega), y1 a (by omega), hfr J J2 e2 a (by omega) (by omega)], rfl⟩⟩
        unfold f_X9_execute
        simp only [plit, pP_130_4, pbs, pO_130, e1, reduceIte, hcp, z4, b1, pI_130_26, b4 26 (by decide), z1 130 (by decide), y1 130 (by decide), x2]
      · obtain ⟨q1, q2⟩ := hw S (Nat.le_refl S)
        exact aS_heap (aS_save hA) q1 (by omega) hB
    · -- one was refused
      have hSM : ¬ S = M := by omega
      have hne : (nI S = -nI 1) = False := by
        have : (mI (S + 1) = -nI 1) = (S + 1 = 0) := mI_none (by omega)
        rw [mI_s] at this
        rw [this]
        simp
      have hnt : f_X5_noted 29 (pm J3 K3 r) = some (31 + 11 * π n, pm J3 K3 r) := by
        have hn5 := h33.1
        unfold f_X5_noted
        simp (disch := omega) only [pR_29_0, pI_29_1, pbs, h33.2.1, pA_30, hπ.2]
      have hp1 := hπ.1
      refine ⟨-nI 1000 - nI S, A, n, H, t, T, P, k, ⟨pu_cp J3 1 (31 + 11 * π n), K3, r, hpre _ ?_, cS_le (cS_heap u2 (by omega) (ph_cp hsv3 w (by omega)) pu_cp_v (fun a ha => pu_cp_fr a (by omega))) (by omega), fun a ha _ => ⟨by rw [pu_cp_fr a (by omega)]; exact (fr3 a ha).1, (fr3 a ha).2⟩⟩, ?_, aS_le hA (by omega) hB⟩
      · rw [if_neg hSM, if_neg (by rw [hne]; exact fun h => h), hnt, pbs]
        simp only [pO_h hp_1, x4_copyFrom hp_1 (hp_st hp1) (show 1 ≠ 31 + 11 * π n from by omega), pbs]
      · intro J K r' hJ
        obtain ⟨J2, v, e1, e2, e3, e4, e5⟩ := hrd J K r' hJ
        obtain ⟨x1, x2, x3⟩ := e5 ef
        subst x1
        obtain ⟨J5, hJ5⟩ : ∃ J5, J5 = pu_rng J2 133 0 552 (fun j => J2 131 j) := ⟨_, rfl⟩
        have y1 : ∀ a, a ≠ 133 → J5 a = J2 a := fun a ha => by funext j; rw [hJ5, pu_rng_ne ha]
        have m5 : mS J5 A n H t T P k := mS_fr e3 ⟨fun a ha => y1 a (by omega), by rw [y1 130 (by decide)], by rw [y1 130 (by decide)]⟩
        have y2 : pr_row (J5 133) A := pr_cong e3.1 (fun j hj => by rw [hJ5, pu_rng_in (by omega) (by omega), Nat.sub_zero])
        have hcp := pm_seq (fun q (a : Nat → Nat → Int32) i => f_X9_execute_b22 q 130 (nI i) (pm a K r')) (fun i => pu_rng J2 133 0 i (fun j => J2 131 j)) 552 (out := f_X9_execute_b49 hb_FU 130 (nI 0) (pm J5 K r')) (by
          intro q i hi
          have hu := pu_rng_up J2 133 0 i (fun j => J2 131 j)
          rw [Nat.zero_add] at hu
          simp (disch := omega) only [f_X9_execute_b22, plit, pn_le, pR_130_0, pR_130_2, pbs, pu_rng_ne, nI_add, pA_131, pS_133]
          rw [if_neg (show ¬ 552 ≤ i from by omega), hu]) (by
          intro q
          simp (disch := omega) only [f_X9_execute_b22, plit, pn_le, Nat.le_refl, if_true, ← hJ5]) hb_FU (by decide)
        rw [pu_rng_0] at hcp
        obtain ⟨J6, z1, -, z2⟩ := r9_run (L := K) (r := r') m5.1 y2 w (by omega) hT hM (by rw [y1 130 (by decide)]; exact x2) (fun j hj => ⟨(hi j hj).2.1, by rw [y1 147 (by decide)]; exact x3 j hj⟩) hS h0 (Or.inr ⟨by omega, by assumption⟩)
        obtain ⟨z3, z4⟩ := z2 hSM
        have m6 : mS J6 A n H t T P k := mS_now m5 z3 z1
        refine ⟨J6, K, ?_, m6, fun a ha => ⟨by rw [z1 a (by omega), y1 a (by omega), hfr J J2 e2 a (by omega) (by omega)], rfl⟩⟩
        unfold f_X9_execute
        simp only [plit, pP_130_4, pbs, pO_130, e1, reduceIte, hcp, z4]
  · -- wrong somewhere
    have hne : (nI (sQ t T M).1 = -nI 1) = False := by
      have : (mI ((sQ t T M).1 + 1) = -nI 1) = ((sQ t T M).1 + 1 = 0) := mI_none (by omega)
      rw [mI_s] at this
      rw [this]
      simp
    refine opD_ask (-nI 10 - nI (sQ t T M).1) ⟨I1, L, ?_, s1, fun a ha _ => ⟨f1 a (by omega), rfl⟩⟩ ?_ hA hB
    · unfold f_X8_execute
      simp (disch := omega) only [plit, pR_0_5, pR_0_3, pbs, pO_100, r1, pI_97_3, p73, ef, bIn, Bool.true_eq_false, reduceIte, pI_97_2, p72]
    · intro J K r' hJ
      obtain ⟨J2, v, e1, e2, e3, e4, e5⟩ := hrd J K r' hJ
      have x1 := e4 ef
      subst x1
      refine ⟨J2, K, ?_, ⟨fun a ha => ?_, ?_, ?_⟩, fun a ha => ⟨hfr J J2 e2 a (by omega) (by omega), rfl⟩⟩
      · unfold f_X9_execute
        simp only [plit, pP_130_4, pbs, pO_130, e1, hne, reduceIte]
      · exact hfr J J2 e2 a (by omega) (by omega)
      · rw [e2.2 3 (by decide) (by decide) (by decide), up2_nj (by decide)]
      · rw [e2.2 6 (by decide) (by decide) (by decide), up2_nj (by decide)]
end EXE2
