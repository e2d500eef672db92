/-! the class's analysis, made anew when it is out of date -/
set_option maxRecDepth 8192 in
theorem pg_E_none {A : Nat → Nat → Nat} {W : Nat → Bool} : pg_E A W (pqx (-nI 1)) = pg_E A W pg_00 := by
  funext a b
  unfold pg_E
  by_cases e : a < 40
  · rw [pa_e_none e]
  · simp [e]
set_option maxRecDepth 8192 in
theorem bs_X_none (A : Nat → Nat → Nat) (W : Nat → Bool) : bs_X A (pa_r A) W (-nI 1) = bs_E (pg_E A W pg_00) (pg_S A W pg_0) := by
  unfold bs_X
  rw [pg_E_none]
  congr 1
  funext s
  unfold pg_S pg_0
  simp
def px_G (A : Nat → Nat → Nat) : bs_T := bs_run (bs_X A (pa_r A) pg_0 (-nI 1)) 42
noncomputable def px_R (A : Nat → Nat → Nat) (o : Nat) : Bool := pg_b A pg_0 pg_00 pg_0 o
noncomputable def px_an (I : Nat → Nat → Int32) (L : Nat → Nat → Int64) (A : Nat → Nat → Nat) : Prop := pa_refs I A ∧ bs_mem I 13 (px_G A) ∧ L 13 4 = hb_mk (px_R A) ∧ I 12 11 = nI (fb_sm (fun o => if px_R A o then pa_so A o else 0) 40) ∧ ∀ o, o < 40 → L 22 o = hb_mk (pd_D A o) ∧ I 23 o = mI (pi_im (pd_D A) o 40) ∧ I 24 o = nI (pd_rt A o) ∧ I 25 o = nI (pa_in A o 320) ∧ I 26 o = nI (pa_ou A o 320) ∧ L 27 o = hb_mk (ld_n A 40 o) ∧ I 28 o = mI (ld_c (ld_n A 40) o)
section REF
variable {I : Nat → Nat → Int32} {L : Nat → Nat → Int64} {r : Nat → Option Nat} {A : Nat → Nat → Nat} {h : Nat}
set_option maxRecDepth 8192 in
theorem px_fin (A : Nat → Nat → Nat) : bs_fin (bs_E (pg_E A pg_0 pg_00) (pg_S A pg_0 pg_0)) (px_G A) := by
  unfold px_G
  rw [bs_X_none]
  exact bs_done
set_option maxRecDepth 8192 in
theorem bs_fR (w : pa_wf A) {W u : Nat → Bool} {q : Nat → Nat → Bool} {G : bs_T} (hG : bs_fin (bs_E (pg_E A W q) (pg_S A W u)) G) {o : Nat} (ho : o < 40) : bs_f G o = pg_b A W q u o := by
  apply Bool.eq_iff_iff.mpr
  unfold bs_f pg_b
  rw [pr_b_iff, decide_eq_true_eq]
  constructor
  · exact bs_R hG ho
  · intro hr
    exact (bs_all hG (fun s h => pg_S_lt s h) (fun a b h => pg_E_lt w a b h) hr).2
set_option maxRecDepth 8192 in
theorem ph_fr (hR : ph_rep I h A) {J : Nat → Nat → Int32} (e : ∀ a, h ≤ a → a ≤ h + 10 → J a = I a) : ph_rep J h A := by
  unfold ph_rep
  rw [e h (by omega) (by omega), e (h + 1) (by omega) (by omega), e (h + 2) (by omega) (by omega), e (h + 3) (by omega) (by omega), e (h + 4) (by omega) (by omega), e (h + 5) (by omega) (by omega), e (h + 6) (by omega) (by omega), e (h + 7) (by omega) (by omega), e (h + 8) (by omega) (by omega), e (h + 9) (by omega) (by omega), e (h + 10) (by omega) (by omega)]
  exact hR
set_option maxRecDepth 8192 in
theorem bs_mem_fr {q : Nat} {G : bs_T} (hm : bs_mem I q G) {J : Nat → Nat → Int32} (e : ∀ a, q ≤ a → a ≤ q + 3 → J a = I a) : bs_mem J q G := by
  unfold bs_mem
  rw [e q (by omega) (by omega), e (q + 1) (by omega) (by omega), e (q + 2) (by omega) (by omega), e (q + 3) (by omega) (by omega)]
  exact hm
set_option maxRecDepth 8192 in
theorem prow_a {α : Type} {I : Nat → Nat → α} {a n b : Nat} {f : Nat → α} (h : b ≠ a) : prow I a n f b = I b := by
  funext j
  exact prow_ne h
set_option maxRecDepth 8192 in
theorem up2_a {α : Type} {I : Nat → Nat → α} {a j b : Nat} {x : α} (h : b ≠ a) : up2 I a j x b = I b := by
  funext i
  exact up2_ne h
set_option maxRecDepth 8192 in
theorem pu_wr_a {m b : Nat} (h : b ≠ 21) : pu_wr I A m b = I b := by
  funext j
  exact pu_wr_ne h
set_option maxRecDepth 8192 in
theorem x0_refresh_eq (hh : pm_hp h) (h1 : h = 1) {J1 J2 J3 J4 J5 J6 J7 J8 : Nat → Nat → Int32} {L2 L3 L4 L5 L6 L7 L8 : Nat → Nat → Int64} {S : Int64} {z : Int32} (ne : ¬ I 12 12 = I h 12) (hwr : f_X4_writeReferences h 21 (pm (up2 I 12 12 (I h 12)) L r) = some (pm J1 L r)) (har : f_X4_allRoots h (pm J1 L r) = some (S, pm J1 L r)) (hrun : f_X6_run 13 21 S (0 : Int64) (-nI 1) (pm J1 L r) = some (pm J2 L2 r)) (hsz : f_X4_sizeOfAll h (L2 13 4) (pm J2 L2 r) = some (z, pm J2 L2 r)) (e3 : f_X0_findDominators 12 (pm (up2 J2 12 11 z) L2 r) = some (pm J3 L3 r)) (e4 : f_X0_findImmediate 12 (pm J3 L3 r) = some (pm J4 L4 r)) (e5 : f_X0_findRetained 12 (pm J4 L4 r) = some (pm J5 L5 r)) (e6 : f_X0_countReferences 12 (pm J5 L5 r) = some (pm J6 L6 r)) (e7 : f_X0_findLed 12 (pm J6 L6 r) = some (pm J7 L7 r)) (e8 : f_X0_findComponents 12 (pm J7 L7 r) = some (pm J8 L8 r)) : f_X0_refresh 12 (pm I L r) = some (pm J8 L8 r) := by
  have hhR : ∀ (J : Nat → Nat → Int32) (K : Nat → Nat → Int64), hb_getR (pm J K r) 12 0 0 = some h := fun J K => by rw [h1]; exact pR_12_0
  unfold f_X0_refresh
  simp only [pI_12_12, hhR, pbs, pI_h_12 hh, ne, if_false, pP_12_12, pR_12_3, pO_h hh, hwr, pR_12_1, har, pO_13, plit, hrun, pI_13_4, hsz, pP_12_11, pO_12, e3, e4, e5, e6, e7, e8]
set_option maxRecDepth 8192 in
theorem x0_refresh (hh : pm_hp h) (h1 : h = 1) (hR : ph_rep I h A) (w : pa_wf A) (hc : I 12 12 = I h 12 → px_an I L A) : ∃ J K, f_X0_refresh 12 (pm I L r) = some (pm J K r) ∧ px_an J K A ∧ J 12 12 = J h 12 ∧ (∀ a, (a < 12 ∨ 28 < a) → J a = I a ∧ K a = L a) := by
  have hhR : ∀ (J : Nat → Nat → Int32) (K : Nat → Nat → Int64), hb_getR (pm J K r) 12 0 0 = some h := fun J K => by rw [h1]; exact pR_12_0
  by_cases e : I 12 12 = I h 12
  · refine ⟨I, L, ?_, hc e, e, fun a _ => ⟨rfl, rfl⟩⟩
    unfold f_X0_refresh
    simp only [pI_12_12, hhR, pbs, pI_h_12 hh, e, if_true]
  · obtain ⟨J0, hJ0⟩ : ∃ J0, J0 = up2 I 12 12 (I h 12) := ⟨_, rfl⟩
    have f0 : ∀ a, a ≠ 12 → J0 a = I a := fun a ha => by rw [hJ0]; exact up2_a ha
    have hR0 : ph_rep J0 h A := ph_fr hR (fun a h1 h2 => f0 a (by omega))
    obtain ⟨J1, hJ1⟩ : ∃ J1, J1 = pu_wr J0 A 320 := ⟨_, rfl⟩
    have f1 : ∀ a, a ≠ 21 → J1 a = J0 a := fun a ha => by rw [hJ1]; exact pu_wr_a ha
    have hR1 : ph_rep J1 h A := ph_fr hR0 (fun a h1 h2 => f1 a (by omega))
    have hf1 : pa_refs J1 A := fun j hj => by rw [hJ1]; exact pu_wr_in hj
    obtain ⟨J2, e2, m2, f2⟩ := x6_run (I := J1) (L := L) (r := r) (Or.inl rfl) hf1 w (pa_r A) pg_0 (-nI 1)
    obtain ⟨L2, hL2⟩ : ∃ L2, L2 = up2 L 13 4 (hb_mk (bs_f (bs_run (bs_X A (pa_r A) pg_0 (-nI 1)) 42))) := ⟨_, rfl⟩
    rw [← hL2] at e2
    have hR2 : ph_rep J2 h A := ph_fr hR1 (fun a h1 h2 => f2 a (by omega))
    have hfin := px_fin A
    have hfnd : hb_mk (bs_f (px_G A)) = hb_mk (px_R A) := pb_congr (fun o ho => bs_fR w hfin ho)
    have hLf : L2 13 4 = hb_mk (bs_f (px_G A)) := by rw [hL2, up2_eq]; rfl
    have hsz := x4_sizeOfAll (L := L2) (r := r) hh hR2 (px_R A) (fun o _ ho => (pg_b_al w ho).2)
    obtain ⟨J3, hJ3⟩ : ∃ J3, J3 = up2 J2 12 11 (nI (fb_sm (fun o => if px_R A o then pa_so A o else 0) 40)) := ⟨_, rfl⟩
    have f3 : ∀ a, a ≠ 12 → J3 a = J2 a := fun a ha => by rw [hJ3]; exact up2_a ha
    have hR3 : ph_rep J3 h A := ph_fr hR2 (fun a h1 h2 => f3 a (by omega))
    have hf3 : pa_refs J3 A := fun j hj => by rw [f3 21 (by decide), f2 21 (by decide)]; exact hf1 j hj
    have m3 : bs_mem J3 13 (px_G A) := bs_mem_fr m2 (fun a h1 h2 => f3 a (by omega))
    have e3 := x0_dominators (L := L2) (r := r) hh h1 hR3 hf3 w hfin m3 hLf
    have e4 := x0_immediate (I := J3) (L := L2) (r := r) (D := pd_D A) (fun o x _ hx hd => (pd_self w hx hd).1)
    obtain ⟨J4, hJ4⟩ : ∃ J4, J4 = prow J3 23 40 (fun o => mI (pi_im (pd_D A) o 40)) := ⟨_, rfl⟩
    rw [← hJ4] at e4
    have f4 : ∀ a, a ≠ 23 → J4 a = J3 a := fun a ha => by rw [hJ4]; exact prow_a ha
    have hR4 : ph_rep J4 h A := ph_fr hR3 (fun a h1 h2 => f4 a (by omega))
    have e5 := x0_retained (L := L2) (r := r) hh h1 hR4 w (hLf.trans hfnd)
    obtain ⟨J5, hJ5⟩ : ∃ J5, J5 = prow J4 24 40 (fun o => nI (pd_rt A o)) := ⟨_, rfl⟩
    rw [← hJ5] at e5
    have f5 : ∀ a, a ≠ 24 → J5 a = J4 a := fun a ha => by rw [hJ5]; exact prow_a ha
    have hf5 : pa_refs J5 A := fun j hj => by rw [f5 21 (by decide), f4 21 (by decide)]; exact hf3 j hj
    have e6 := x0_counts (L := pl_D L2 22 (pd_D A)) (r := r) hf5 w
    obtain ⟨J6, hJ6⟩ : ∃ J6, J6 = prow (prow J5 25 40 (fun t => nI (pa_in A t 320))) 26 40 (fun o => nI (pa_ou A o 320)) := ⟨_, rfl⟩
    rw [← hJ6] at e6
    have f6 : ∀ a, a ≠ 25 → a ≠ 26 → J6 a = J5 a := fun a ha hb => by rw [hJ6, prow_a hb, prow_a ha]
    have hR6 : ph_rep J6 h A := ph_fr hR4 (fun a h1 h2 => by rw [f6 a (by omega) (by omega), f5 a (by omega)])
    have hf6 : pa_refs J6 A := fun j hj => by rw [f6 21 (by decide) (by decide)]; exact hf5 j hj
    have e7 := x0_led (L := pl_D L2 22 (pd_D A)) (r := r) hh h1 hR6 hf6 w
    have e8 := x0_components (I := J6) (L := pl_D L2 22 (pd_D A)) (r := r) (D := ld_n A 40)
    obtain ⟨J7, hJ7⟩ : ∃ J7, J7 = prow J6 28 40 (fun o => mI (ld_c (ld_n A 40) o)) := ⟨_, rfl⟩
    rw [← hJ7] at e8
    have f7 : ∀ a, a ≠ 28 → J7 a = J6 a := fun a ha => by rw [hJ7]; exact prow_a ha
    have hL22 : ∀ a, a ≠ 22 → a ≠ 27 → a ≠ 13 → pl_D (pl_D L2 22 (pd_D A)) 27 (ld_n A 40) a = L a := by
      intro a n1 n2 n3
      funext j
      rw [pl_D_ne n2, pl_D_ne n1, hL2, up2_ne n3]
    have hfr : ∀ a, (a < 12 ∨ 28 < a) → J7 a = I a := by
      intro a ha
      rw [f7 a (by omega), f6 a (by omega) (by omega), f5 a (by omega), f4 a (by omega), f3 a (by omega), f2 a (by omega), f1 a (by omega), f0 a (by omega)]
    refine ⟨J7, pl_D (pl_D L2 22 (pd_D A)) 27 (ld_n A 40), ?_, ⟨?_, ?_, ?_, ?_, ?_⟩, ?_, fun a ha => ⟨hfr a ha, hL22 a (by omega) (by omega) (by omega)⟩⟩
    · have hwr := x4_writeRefs (L := L) (r := r) hh h1 hR0 w
      rw [← hJ1] at hwr
      have e2' : f_X6_run 13 21 (hb_mk (pa_r A)) (0 : Int64) (-nI 1) (pm J1 L r) = some (pm J2 L2 r) := by
        rw [← pb_0]
        exact e2
      rw [hJ0] at hwr
      rw [← hfnd, ← hLf] at hsz
      exact x0_refresh_eq hh h1 e hwr (x4_allRoots hh hR1 w) e2' hsz (by rw [← hJ3]; exact e3) e4 e5 e6 e7 e8
    · intro j hj
      rw [f7 21 (by decide)]
      exact hf6 j hj
    · refine bs_mem_fr m3 (fun a h1 h2 => ?_)
      rw [f7 a (by omega), f6 a (by omega) (by omega), f5 a (by omega), f4 a (by omega)]
    · rw [pl_D_ne (by decide), pl_D_ne (by decide), hLf, hfnd]
    · rw [f7 12 (by decide), f6 12 (by decide) (by decide), f5 12 (by decide), f4 12 (by decide), hJ3, up2_eq]
    · intro o ho
      refine ⟨?_, ?_, ?_, ?_, ?_, ?_, ?_⟩
      · rw [pl_D_ne (by decide), pl_D_in ho]
      · rw [f7 23 (by decide), f6 23 (by decide) (by decide), f5 23 (by decide), hJ4, prow_in ho]
      · rw [f7 24 (by decide), f6 24 (by decide) (by decide), hJ5, prow_in ho]
      · rw [f7 25 (by decide), hJ6, prow_ne (by decide), prow_in ho]
      · rw [f7 26 (by decide), hJ6, prow_in ho]
      · rw [pl_D_in ho]
      · rw [hJ7, prow_in ho]
    · rw [hfr h (by omega), f7 12 (by decide), f6 12 (by decide) (by decide), f5 12 (by decide), f4 12 (by decide), hJ3, up2_nj (by decide), f2 12 (by decide), f1 12 (by decide), hJ0, up2_eq]
end REF
