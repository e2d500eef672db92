/-! one call of the law's loop -/
section LAW
variable {I J : Nat → Nat → Int32} {L K : Nat → Nat → Int64} {r : Nat → Option Nat} {A : Nat → Nat → Nat} {n : Nat} {H : Nat → Nat → Nat → Nat} {t : Nat} {T : Nat → Nat} {P : Nat → Nat → Nat → Nat} {k : Nat → Bool} {B : Nat}
variable {L9 : Nat} {xs9 : Nat → Int32} {k23 : Nat → Nat → Nat → Int32 → hb_M → Option (Int32 × hb_M)} {i : Nat}
def lw_ok (B : Nat) (I : Nat → Nat → Int32) (L : Nat → Nat → Int64) (r : Nat → Option Nat) : Prop := ∃ A n H t T P k, cS I L r A n H t T P k B ∧ mS I A n H t T P k ∧ aS A n H t T P k B
def lw_1 (o : Option (Int32 × hb_M)) : Prop := ∃ σ9, o = some (1, σ9)
def lw_k (k23 : Nat → Nat → Nat → Int32 → hb_M → Option (Int32 × hb_M)) (i : Nat) : Prop := ∀ I L r, lw_ok (1000 * i + 1 + 1000) I L r → lw_1 (k23 0 130 148 (nI (4 * i) + 4) (pm I L r))
set_option maxRecDepth 8192 in
theorem cS_m (h : cS I L r A n H t T P k B) (e : mO I J L K) : cS J K r A n H t T P k B := cS_fr h (fun a a1 _ => e a (by omega))
set_option maxRecDepth 8192 in
theorem lw_bd (hi : 4 * i + 4 ≤ L9) (hL : L9 ≤ 2048) {q : Nat} (hq : q < 4) : (nI (4 * i) + nI q < nI 0 ∨ L9 ≤ (nI (4 * i) + nI q).toNatClampNeg) = False := by
  rw [nI_add, nI_clamp (show 4 * i + q < 2 ^ 31 from by omega)]
  refine eq_false ?_
  rintro (h | h)
  · exact nI_pos (show 4 * i + q < 2 ^ 31 from by omega) h
  · omega
set_option maxRecDepth 8192 in
theorem lw_opK {β : Type} {fL : hb_M → Option (Int32 × hb_M)} {fM : hb_M → Option (β × hb_M)} {wd : β → Int64} {kk : hb_M → Option (Int32 × hb_M)} (h : opK fL fM wd I L r A n H t T P k B) (hM : mS I A n H t T P k) (hk : ∀ J K r', lw_ok (B + 1000) J K r' → lw_1 (kk (pm J K r'))) : lw_1 ((fL (pm I L r)).bind fun r3 => (hb_on r3.2 130 9 (fM r3.2)).bind fun r6 => (hb_on r6.2 130 9 (f_X9_thrown 130 r6.2)).bind fun r7 => if r7.1 = r3.1 then if r3.1 = 0 then (hb_lald r7.2 148 (0 : Int32)).bind fun r10 => if lg_cmp r10 (wd r6.1) = 0 then kk r7.2 else some ((0 : Int32), r7.2) else kk r7.2 else some ((0 : Int32), r7.2)) := by
  obtain ⟨c, v, A', n', H', t', T', P', k', hc, ⟨J, K, r', e1, e2, e3, e4⟩, hm, ha⟩ := h
  have hM2 : mS J A n H t T P k := mS_fr hM ⟨fun a ha => (e4 a (by omega) (by omega)).1, by rw [(e4 130 (by omega) (by omega)).1], by rw [(e4 130 (by omega) (by omega)).1]⟩
  obtain ⟨v', J2, K2, f1, f2, f3, f4, f5⟩ := hm J K r' hM2
  have hok := hk J2 K2 r' ⟨A', n', H', t', T', P', k', cS_m e3 f5, f4, ha⟩
  have ht : f_X9_thrown 130 (pm J2 K2 r') = some (nI c, pm J2 K2 r') := by
    unfold f_X9_thrown
    rw [pI_130_4, f3]
    rfl
  simp only [e1, pbs, pO_130, f1, ht]
  rw [if_pos trivial]
  by_cases h0 : c = 0
  · subst h0
    rw [if_pos (show nI 0 = 0 from rfl), show (0 : Int32) = nI 0 from rfl, pA_148 (by decide)]
    simp only [pbs]
    have h1 : K2 148 0 = wd v' := by
      rw [(f5 148 (by omega)).2, e2 rfl, f2 rfl]
    rw [if_pos (pb_cmp0.mpr h1)]
    exact hok
  · rw [if_neg (show ¬ nI c = (0 : Int32) from fun h => h0 ((pn_eq (b := 0) (by omega) (by decide)).mp h))]
    exact hok
set_option maxRecDepth 8192 in
theorem lw_opKb {fL : hb_M → Option (Int32 × hb_M)} {fM : hb_M → Option (Int32 × hb_M)} {kk : hb_M → Option (Int32 × hb_M)} {k2 : Int64 → Int64 → hb_M → Option (Int32 × hb_M)} (h : opK fL fM pw_b I L r A n H t T P k B) (hM : mS I A n H t T P k) (hk2 : ∀ a b σ, k2 a b σ = if lg_cmp a b = 0 then kk σ else some ((0 : Int32), σ)) (hk : ∀ J K r', lw_ok (B + 1000) J K r' → lw_1 (kk (pm J K r'))) : lw_1 ((fL (pm I L r)).bind fun r3 => (hb_on r3.2 130 9 (fM r3.2)).bind fun r6 => (hb_on r6.2 130 9 (f_X9_thrown 130 r6.2)).bind fun r7 => if r7.1 = r3.1 then if r3.1 = 0 then (hb_lald r7.2 148 (0 : Int32)).bind fun r10 => if r6.1 = 0 then k2 r10 (0 : Int64) r7.2 else k2 r10 (1 : Int64) r7.2 else kk r7.2 else some ((0 : Int32), r7.2)) := by
  have hh := lw_opK h hM hk
  refine (congrArg lw_1 ?_).mp hh
  congr 1
  funext r3
  congr 1
  funext r6
  congr 1
  funext r7
  by_cases e1 : r7.1 = r3.1
  · rw [if_pos e1, if_pos e1]
    by_cases e2 : r3.1 = 0
    · rw [if_pos e2, if_pos e2]
      congr 1
      funext r10
      unfold pw_b
      rw [hk2, hk2]
      by_cases e3 : r6.1 = 0
      · rw [if_pos e3, if_pos e3]
      · rw [if_neg e3, if_neg e3]
    · rw [if_neg e2, if_neg e2]
  · rw [if_neg e1, if_neg e1]
set_option maxRecDepth 8192 in
theorem lw_opD {β : Type} {fX fM : hb_M → Option (β × hb_M)} {Q : β → β → Prop} {dQ : ∀ a b, Decidable (Q a b)} {kk : hb_M → Option (Int32 × hb_M)} (hQ : ∀ a, Q a a) (h : opD fX fM I L r A n H t T P k B) (hM : mS I A n H t T P k) (hk : ∀ J K r', lw_ok (B + 1000) J K r' → lw_1 (kk (pm J K r'))) : lw_1 ((hb_on (pm I L r) 0 8 (fX (pm I L r))).bind fun r3 => (hb_on r3.2 130 9 (fM r3.2)).bind fun r6 => if Q r3.1 r6.1 then kk r6.2 else some ((0 : Int32), r6.2)) := by
  obtain ⟨v, A', n', H', t', T', P', k', ⟨J, K, r', e1, e3, e4⟩, hm, ha⟩ := h
  have hM2 : mS J A n H t T P k := mS_fr hM ⟨fun a ha => (e4 a (by omega) (by omega)).1, by rw [(e4 130 (by omega) (by omega)).1], by rw [(e4 130 (by omega) (by omega)).1]⟩
  obtain ⟨J2, K2, f1, f4, f5⟩ := hm J K r' hM2
  have hok := hk J2 K2 r' ⟨A', n', H', t', T', P', k', cS_m e3 f5, f4, ha⟩
  simp only [pO_0, e1, pbs, pO_130, f1]
  rw [if_pos (hQ v)]
  exact hok
set_option maxRecDepth 8192 in
theorem lw_go (hk : lw_k k23 i) : ∀ J K r', lw_ok (1000 * i + 1 + 1000) J K r' → lw_1 (f_L_law_b2704 L9 xs9 k23 0 130 148 (nI (4 * i)) (pm J K r')) := fun J K r' h => hk J K r' h
set_option maxRecDepth 8192 in
theorem st_0 (hi : 4 * i + 4 ≤ L9) (hL : L9 ≤ 2048) (hk : lw_k k23 i) (hs : lw_ok (1000 * i + 1) I L r) : lw_1 (f_L_law_b236 L9 xs9 k23 0 130 148 (nI (4 * i)) (pm I L r)) := by
  obtain ⟨A, n, H, t, T, P, k, hC, hM, hA⟩ := hs
  have b1 := lw_bd hi hL (q := 1) (by decide)
  have b2 := lw_bd hi hL (q := 2) (by decide)
  have b3 := lw_bd hi hL (q := 3) (by decide)
  unfold f_L_law_b236
  simp only [show (nI (4 * i) + 1 < 0 ∨ L9 ≤ (nI (4 * i) + 1).toNatClampNeg) = False from b1, show (nI (4 * i) + 2 < 0 ∨ L9 ≤ (nI (4 * i) + 2).toNatClampNeg) = False from b2, show (nI (4 * i) + 3 < 0 ∨ L9 ≤ (nI (4 * i) + 3).toNatClampNeg) = False from b3, if_false]
  exact lw_opK (kk := fun σ => f_L_law_b313 L9 xs9 k23 0 130 148 (nI (4 * i)) σ) (ok_defineClass (xs9 (nI (4 * i) + 1).toNatClampNeg) (xs9 (nI (4 * i) + 2).toNatClampNeg) (xs9 (nI (4 * i) + 3).toNatClampNeg) hC hA (by omega)) hM (lw_go hk)
set_option maxRecDepth 8192 in
theorem st_1 (hi : 4 * i + 4 ≤ L9) (hL : L9 ≤ 2048) (hk : lw_k k23 i) (hs : lw_ok (1000 * i + 1) I L r) : lw_1 (f_L_law_b316 L9 xs9 k23 0 130 148 (nI (4 * i)) (pm I L r)) := by
  obtain ⟨A, n, H, t, T, P, k, hC, hM, hA⟩ := hs
  have b1 := lw_bd hi hL (q := 1) (by decide)
  have b2 := lw_bd hi hL (q := 2) (by decide)
  have b3 := lw_bd hi hL (q := 3) (by decide)
  unfold f_L_law_b316
  exact lw_opD (kk := fun σ => f_L_law_b2704 L9 xs9 k23 0 130 148 (nI (4 * i)) σ) (Q := fun a b => a = b) (dQ := fun a b => inferInstance) (fun _ => rfl) (od_classes  hC hA (by omega)) hM (lw_go hk)
set_option maxRecDepth 8192 in
theorem st_2 (hi : 4 * i + 4 ≤ L9) (hL : L9 ≤ 2048) (hk : lw_k k23 i) (hs : lw_ok (1000 * i + 1) I L r) : lw_1 (f_L_law_b329 L9 xs9 k23 0 130 148 (nI (4 * i)) (pm I L r)) := by
  obtain ⟨A, n, H, t, T, P, k, hC, hM, hA⟩ := hs
  have b1 := lw_bd hi hL (q := 1) (by decide)
  have b2 := lw_bd hi hL (q := 2) (by decide)
  have b3 := lw_bd hi hL (q := 3) (by decide)
  unfold f_L_law_b329
  simp only [show (nI (4 * i) + 1 < 0 ∨ L9 ≤ (nI (4 * i) + 1).toNatClampNeg) = False from b1, show (nI (4 * i) + 2 < 0 ∨ L9 ≤ (nI (4 * i) + 2).toNatClampNeg) = False from b2, show (nI (4 * i) + 3 < 0 ∨ L9 ≤ (nI (4 * i) + 3).toNatClampNeg) = False from b3, if_false]
  exact lw_opK (kk := fun σ => f_L_law_b394 L9 xs9 k23 0 130 148 (nI (4 * i)) σ) (ok_classInfo (xs9 (nI (4 * i) + 1).toNatClampNeg) (xs9 (nI (4 * i) + 2).toNatClampNeg) hC hA (by omega)) hM (lw_go hk)
set_option maxRecDepth 8192 in
theorem st_3 (hi : 4 * i + 4 ≤ L9) (hL : L9 ≤ 2048) (hk : lw_k k23 i) (hs : lw_ok (1000 * i + 1) I L r) : lw_1 (f_L_law_b397 L9 xs9 k23 0 130 148 (nI (4 * i)) (pm I L r)) := by
  obtain ⟨A, n, H, t, T, P, k, hC, hM, hA⟩ := hs
  have b1 := lw_bd hi hL (q := 1) (by decide)
  have b2 := lw_bd hi hL (q := 2) (by decide)
  have b3 := lw_bd hi hL (q := 3) (by decide)
  unfold f_L_law_b397
  simp only [show (nI (4 * i) + 1 < 0 ∨ L9 ≤ (nI (4 * i) + 1).toNatClampNeg) = False from b1, show (nI (4 * i) + 2 < 0 ∨ L9 ≤ (nI (4 * i) + 2).toNatClampNeg) = False from b2, show (nI (4 * i) + 3 < 0 ∨ L9 ≤ (nI (4 * i) + 3).toNatClampNeg) = False from b3, if_false]
  exact lw_opKb (kk := fun σ => f_L_law_b469 L9 xs9 k23 0 130 148 (nI (4 * i)) σ) (k2 := fun a b σ => f_L_law_b463 L9 xs9 k23 0 130 148 (nI (4 * i)) a b σ) (ok_isSubclass (xs9 (nI (4 * i) + 1).toNatClampNeg) (xs9 (nI (4 * i) + 2).toNatClampNeg) hC hA (by omega)) hM (fun _ _ _ => rfl) (lw_go hk)
set_option maxRecDepth 8192 in
theorem st_4 (hi : 4 * i + 4 ≤ L9) (hL : L9 ≤ 2048) (hk : lw_k k23 i) (hs : lw_ok (1000 * i + 1) I L r) : lw_1 (f_L_law_b472 L9 xs9 k23 0 130 148 (nI (4 * i)) (pm I L r)) := by
  obtain ⟨A, n, H, t, T, P, k, hC, hM, hA⟩ := hs
  have b1 := lw_bd hi hL (q := 1) (by decide)
  have b2 := lw_bd hi hL (q := 2) (by decide)
  have b3 := lw_bd hi hL (q := 3) (by decide)
  unfold f_L_law_b472
  simp only [show (nI (4 * i) + 1 < 0 ∨ L9 ≤ (nI (4 * i) + 1).toNatClampNeg) = False from b1, show (nI (4 * i) + 2 < 0 ∨ L9 ≤ (nI (4 * i) + 2).toNatClampNeg) = False from b2, show (nI (4 * i) + 3 < 0 ∨ L9 ≤ (nI (4 * i) + 3).toNatClampNeg) = False from b3, if_false]
  exact lw_opK (kk := fun σ => f_L_law_b525 L9 xs9 k23 0 130 148 (nI (4 * i)) σ) (ok_newInstance (xs9 (nI (4 * i) + 1).toNatClampNeg) hC hA (by omega)) hM (lw_go hk)
set_option maxRecDepth 8192 in
theorem st_5 (hi : 4 * i + 4 ≤ L9) (hL : L9 ≤ 2048) (hk : lw_k k23 i) (hs : lw_ok (1000 * i + 1) I L r) : lw_1 (f_L_law_b528 L9 xs9 k23 0 130 148 (nI (4 * i)) (pm I L r)) := by
  obtain ⟨A, n, H, t, T, P, k, hC, hM, hA⟩ := hs
  have b1 := lw_bd hi hL (q := 1) (by decide)
  have b2 := lw_bd hi hL (q := 2) (by decide)
  have b3 := lw_bd hi hL (q := 3) (by decide)
  unfold f_L_law_b528
  simp only [show (nI (4 * i) + 1 < 0 ∨ L9 ≤ (nI (4 * i) + 1).toNatClampNeg) = False from b1, show (nI (4 * i) + 2 < 0 ∨ L9 ≤ (nI (4 * i) + 2).toNatClampNeg) = False from b2, show (nI (4 * i) + 3 < 0 ∨ L9 ≤ (nI (4 * i) + 3).toNatClampNeg) = False from b3, if_false]
  exact lw_opK (kk := fun σ => f_L_law_b581 L9 xs9 k23 0 130 148 (nI (4 * i)) σ) (ok_newArray (xs9 (nI (4 * i) + 1).toNatClampNeg) hC hA (by omega)) hM (lw_go hk)
set_option maxRecDepth 8192 in
theorem st_6 (hi : 4 * i + 4 ≤ L9) (hL : L9 ≤ 2048) (hk : lw_k k23 i) (hs : lw_ok (1000 * i + 1) I L r) : lw_1 (f_L_law_b584 L9 xs9 k23 0 130 148 (nI (4 * i)) (pm I L r)) := by
  obtain ⟨A, n, H, t, T, P, k, hC, hM, hA⟩ := hs
  have b1 := lw_bd hi hL (q := 1) (by decide)
  have b2 := lw_bd hi hL (q := 2) (by decide)
  have b3 := lw_bd hi hL (q := 3) (by decide)
  unfold f_L_law_b584
  exact lw_opK (kk := fun σ => f_L_law_b625 L9 xs9 k23 0 130 148 (nI (4 * i)) σ) (ok_newHolder  hC hA (by omega)) hM (lw_go hk)
set_option maxRecDepth 8192 in
theorem st_7 (hi : 4 * i + 4 ≤ L9) (hL : L9 ≤ 2048) (hk : lw_k k23 i) (hs : lw_ok (1000 * i + 1) I L r) : lw_1 (f_L_law_b628 L9 xs9 k23 0 130 148 (nI (4 * i)) (pm I L r)) := by
  obtain ⟨A, n, H, t, T, P, k, hC, hM, hA⟩ := hs
  have b1 := lw_bd hi hL (q := 1) (by decide)
  have b2 := lw_bd hi hL (q := 2) (by decide)
  have b3 := lw_bd hi hL (q := 3) (by decide)
  unfold f_L_law_b628
  simp only [show (nI (4 * i) + 1 < 0 ∨ L9 ≤ (nI (4 * i) + 1).toNatClampNeg) = False from b1, show (nI (4 * i) + 2 < 0 ∨ L9 ≤ (nI (4 * i) + 2).toNatClampNeg) = False from b2, show (nI (4 * i) + 3 < 0 ∨ L9 ≤ (nI (4 * i) + 3).toNatClampNeg) = False from b3, if_false]
  exact lw_opK (kk := fun σ => f_L_law_b705 L9 xs9 k23 0 130 148 (nI (4 * i)) σ) (ok_set (xs9 (nI (4 * i) + 1).toNatClampNeg) (xs9 (nI (4 * i) + 2).toNatClampNeg) (xs9 (nI (4 * i) + 3).toNatClampNeg) hC hA (by omega)) hM (lw_go hk)
set_option maxRecDepth 8192 in
theorem st_8 (hi : 4 * i + 4 ≤ L9) (hL : L9 ≤ 2048) (hk : lw_k k23 i) (hs : lw_ok (1000 * i + 1) I L r) : lw_1 (f_L_law_b708 L9 xs9 k23 0 130 148 (nI (4 * i)) (pm I L r)) := by
  obtain ⟨A, n, H, t, T, P, k, hC, hM, hA⟩ := hs
  have b1 := lw_bd hi hL (q := 1) (by decide)
  have b2 := lw_bd hi hL (q := 2) (by decide)
  have b3 := lw_bd hi hL (q := 3) (by decide)
  unfold f_L_law_b708
  simp only [show (nI (4 * i) + 1 < 0 ∨ L9 ≤ (nI (4 * i) + 1).toNatClampNeg) = False from b1, show (nI (4 * i) + 2 < 0 ∨ L9 ≤ (nI (4 * i) + 2).toNatClampNeg) = False from b2, show (nI (4 * i) + 3 < 0 ∨ L9 ≤ (nI (4 * i) + 3).toNatClampNeg) = False from b3, if_false]
  exact lw_opK (kk := fun σ => f_L_law_b773 L9 xs9 k23 0 130 148 (nI (4 * i)) σ) (ok_get (xs9 (nI (4 * i) + 1).toNatClampNeg) (xs9 (nI (4 * i) + 2).toNatClampNeg) hC hA (by omega)) hM (lw_go hk)
set_option maxRecDepth 8192 in
theorem st_9 (hi : 4 * i + 4 ≤ L9) (hL : L9 ≤ 2048) (hk : lw_k k23 i) (hs : lw_ok (1000 * i + 1) I L r) : lw_1 (f_L_law_b776 L9 xs9 k23 0 130 148 (nI (4 * i)) (pm I L r)) := by
  obtain ⟨A, n, H, t, T, P, k, hC, hM, hA⟩ := hs
  have b1 := lw_bd hi hL (q := 1) (by decide)
  have b2 := lw_bd hi hL (q := 2) (by decide)
  have b3 := lw_bd hi hL (q := 3) (by decide)
  unfold f_L_law_b776
  simp only [show (nI (4 * i) + 1 < 0 ∨ L9 ≤ (nI (4 * i) + 1).toNatClampNeg) = False from b1, show (nI (4 * i) + 2 < 0 ∨ L9 ≤ (nI (4 * i) + 2).toNatClampNeg) = False from b2, show (nI (4 * i) + 3 < 0 ∨ L9 ≤ (nI (4 * i) + 3).toNatClampNeg) = False from b3, if_false]
  exact lw_opK (kk := fun σ => f_L_law_b841 L9 xs9 k23 0 130 148 (nI (4 * i)) σ) (ok_resizeArray (xs9 (nI (4 * i) + 1).toNatClampNeg) (xs9 (nI (4 * i) + 2).toNatClampNeg) hC hA (by omega)) hM (lw_go hk)
set_option maxRecDepth 8192 in
theorem st_10 (hi : 4 * i + 4 ≤ L9) (hL : L9 ≤ 2048) (hk : lw_k k23 i) (hs : lw_ok (1000 * i + 1) I L r) : lw_1 (f_L_law_b844 L9 xs9 k23 0 130 148 (nI (4 * i)) (pm I L r)) := by
  obtain ⟨A, n, H, t, T, P, k, hC, hM, hA⟩ := hs
  have b1 := lw_bd hi hL (q := 1) (by decide)
  have b2 := lw_bd hi hL (q := 2) (by decide)
  have b3 := lw_bd hi hL (q := 3) (by decide)
  unfold f_L_law_b844
  simp only [show (nI (4 * i) + 1 < 0 ∨ L9 ≤ (nI (4 * i) + 1).toNatClampNeg) = False from b1, show (nI (4 * i) + 2 < 0 ∨ L9 ≤ (nI (4 * i) + 2).toNatClampNeg) = False from b2, show (nI (4 * i) + 3 < 0 ∨ L9 ≤ (nI (4 * i) + 3).toNatClampNeg) = False from b3, if_false]
  exact lw_opK (kk := fun σ => f_L_law_b897 L9 xs9 k23 0 130 148 (nI (4 * i)) σ) (ok_referent (xs9 (nI (4 * i) + 1).toNatClampNeg) hC hA (by omega)) hM (lw_go hk)
set_option maxRecDepth 8192 in
theorem st_11 (hi : 4 * i + 4 ≤ L9) (hL : L9 ≤ 2048) (hk : lw_k k23 i) (hs : lw_ok (1000 * i + 1) I L r) : lw_1 (f_L_law_b900 L9 xs9 k23 0 130 148 (nI (4 * i)) (pm I L r)) := by
  obtain ⟨A, n, H, t, T, P, k, hC, hM, hA⟩ := hs
  have b1 := lw_bd hi hL (q := 1) (by decide)
  have b2 := lw_bd hi hL (q := 2) (by decide)
  have b3 := lw_bd hi hL (q := 3) (by decide)
  unfold f_L_law_b900
  simp only [show (nI (4 * i) + 1 < 0 ∨ L9 ≤ (nI (4 * i) + 1).toNatClampNeg) = False from b1, show (nI (4 * i) + 2 < 0 ∨ L9 ≤ (nI (4 * i) + 2).toNatClampNeg) = False from b2, show (nI (4 * i) + 3 < 0 ∨ L9 ≤ (nI (4 * i) + 3).toNatClampNeg) = False from b3, if_false]
  exact lw_opK (kk := fun σ => f_L_law_b965 L9 xs9 k23 0 130 148 (nI (4 * i)) σ) (ok_addRoot (xs9 (nI (4 * i) + 1).toNatClampNeg) (xs9 (nI (4 * i) + 2).toNatClampNeg) hC hA (by omega)) hM (lw_go hk)
set_option maxRecDepth 8192 in
theorem st_12 (hi : 4 * i + 4 ≤ L9) (hL : L9 ≤ 2048) (hk : lw_k k23 i) (hs : lw_ok (1000 * i + 1) I L r) : lw_1 (f_L_law_b968 L9 xs9 k23 0 130 148 (nI (4 * i)) (pm I L r)) := by
  obtain ⟨A, n, H, t, T, P, k, hC, hM, hA⟩ := hs
  have b1 := lw_bd hi hL (q := 1) (by decide)
  have b2 := lw_bd hi hL (q := 2) (by decide)
  have b3 := lw_bd hi hL (q := 3) (by decide)
  unfold f_L_law_b968
  simp only [show (nI (4 * i) + 1 < 0 ∨ L9 ≤ (nI (4 * i) + 1).toNatClampNeg) = False from b1, show (nI (4 * i) + 2 < 0 ∨ L9 ≤ (nI (4 * i) + 2).toNatClampNeg) = False from b2, show (nI (4 * i) + 3 < 0 ∨ L9 ≤ (nI (4 * i) + 3).toNatClampNeg) = False from b3, if_false]
  exact lw_opK (kk := fun σ => f_L_law_b1033 L9 xs9 k23 0 130 148 (nI (4 * i)) σ) (ok_removeRoot (xs9 (nI (4 * i) + 1).toNatClampNeg) (xs9 (nI (4 * i) + 2).toNatClampNeg) hC hA (by omega)) hM (lw_go hk)
set_option maxRecDepth 8192 in
theorem st_13 (hi : 4 * i + 4 ≤ L9) (hL : L9 ≤ 2048) (hk : lw_k k23 i) (hs : lw_ok (1000 * i + 1) I L r) : lw_1 (f_L_law_b1036 L9 xs9 k23 0 130 148 (nI (4 * i)) (pm I L r)) := by
  obtain ⟨A, n, H, t, T, P, k, hC, hM, hA⟩ := hs
  have b1 := lw_bd hi hL (q := 1) (by decide)
  have b2 := lw_bd hi hL (q := 2) (by decide)
  have b3 := lw_bd hi hL (q := 3) (by decide)
  unfold f_L_law_b1036
  exact lw_opD (kk := fun σ => f_L_law_b2704 L9 xs9 k23 0 130 148 (nI (4 * i)) σ) (Q := fun a b => a = b) (dQ := fun a b => inferInstance) (fun _ => rfl) (od_collect  hC hA (by omega)) hM (lw_go hk)
set_option maxRecDepth 8192 in
theorem st_14 (hi : 4 * i + 4 ≤ L9) (hL : L9 ≤ 2048) (hk : lw_k k23 i) (hs : lw_ok (1000 * i + 1) I L r) : lw_1 (f_L_law_b1049 L9 xs9 k23 0 130 148 (nI (4 * i)) (pm I L r)) := by
  obtain ⟨A, n, H, t, T, P, k, hC, hM, hA⟩ := hs
  have b1 := lw_bd hi hL (q := 1) (by decide)
  have b2 := lw_bd hi hL (q := 2) (by decide)
  have b3 := lw_bd hi hL (q := 3) (by decide)
  unfold f_L_law_b1049
  exact lw_opD (kk := fun σ => f_L_law_b2704 L9 xs9 k23 0 130 148 (nI (4 * i)) σ) (Q := fun a b => a = b) (dQ := fun a b => inferInstance) (fun _ => rfl) (od_objects  hC hA (by omega)) hM (lw_go hk)
set_option maxRecDepth 8192 in
theorem st_15 (hi : 4 * i + 4 ≤ L9) (hL : L9 ≤ 2048) (hk : lw_k k23 i) (hs : lw_ok (1000 * i + 1) I L r) : lw_1 (f_L_law_b1062 L9 xs9 k23 0 130 148 (nI (4 * i)) (pm I L r)) := by
  obtain ⟨A, n, H, t, T, P, k, hC, hM, hA⟩ := hs
  have b1 := lw_bd hi hL (q := 1) (by decide)
  have b2 := lw_bd hi hL (q := 2) (by decide)
  have b3 := lw_bd hi hL (q := 3) (by decide)
  unfold f_L_law_b1062
  simp only [show (nI (4 * i) + 1 < 0 ∨ L9 ≤ (nI (4 * i) + 1).toNatClampNeg) = False from b1, show (nI (4 * i) + 2 < 0 ∨ L9 ≤ (nI (4 * i) + 2).toNatClampNeg) = False from b2, show (nI (4 * i) + 3 < 0 ∨ L9 ≤ (nI (4 * i) + 3).toNatClampNeg) = False from b3, if_false]
  exact lw_opD (kk := fun σ => f_L_law_b2704 L9 xs9 k23 0 130 148 (nI (4 * i)) σ) (Q := fun a b => a = b) (dQ := fun a b => inferInstance) (fun _ => rfl) (od_exists (xs9 (nI (4 * i) + 1).toNatClampNeg) hC hA (by omega)) hM (lw_go hk)
set_option maxRecDepth 8192 in
theorem st_16 (hi : 4 * i + 4 ≤ L9) (hL : L9 ≤ 2048) (hk : lw_k k23 i) (hs : lw_ok (1000 * i + 1) I L r) : lw_1 (f_L_law_b1087 L9 xs9 k23 0 130 148 (nI (4 * i)) (pm I L r)) := by
  obtain ⟨A, n, H, t, T, P, k, hC, hM, hA⟩ := hs
  have b1 := lw_bd hi hL (q := 1) (by decide)
  have b2 := lw_bd hi hL (q := 2) (by decide)
  have b3 := lw_bd hi hL (q := 3) (by decide)
  unfold f_L_law_b1087
  simp only [show (nI (4 * i) + 1 < 0 ∨ L9 ≤ (nI (4 * i) + 1).toNatClampNeg) = False from b1, show (nI (4 * i) + 2 < 0 ∨ L9 ≤ (nI (4 * i) + 2).toNatClampNeg) = False from b2, show (nI (4 * i) + 3 < 0 ∨ L9 ≤ (nI (4 * i) + 3).toNatClampNeg) = False from b3, if_false]
  exact lw_opK (kk := fun σ => f_L_law_b1152 L9 xs9 k23 0 130 148 (nI (4 * i)) σ) (ok_objectInfo (xs9 (nI (4 * i) + 1).toNatClampNeg) (xs9 (nI (4 * i) + 2).toNatClampNeg) hC hA (by omega)) hM (lw_go hk)
set_option maxRecDepth 8192 in
theorem st_17 (hi : 4 * i + 4 ≤ L9) (hL : L9 ≤ 2048) (hk : lw_k k23 i) (hs : lw_ok (1000 * i + 1) I L r) : lw_1 (f_L_law_b1155 L9 xs9 k23 0 130 148 (nI (4 * i)) (pm I L r)) := by
  obtain ⟨A, n, H, t, T, P, k, hC, hM, hA⟩ := hs
  have b1 := lw_bd hi hL (q := 1) (by decide)
  have b2 := lw_bd hi hL (q := 2) (by decide)
  have b3 := lw_bd hi hL (q := 3) (by decide)
  unfold f_L_law_b1155
  simp only [show (nI (4 * i) + 1 < 0 ∨ L9 ≤ (nI (4 * i) + 1).toNatClampNeg) = False from b1, show (nI (4 * i) + 2 < 0 ∨ L9 ≤ (nI (4 * i) + 2).toNatClampNeg) = False from b2, show (nI (4 * i) + 3 < 0 ∨ L9 ≤ (nI (4 * i) + 3).toNatClampNeg) = False from b3, if_false]
  exact lw_opK (kk := fun σ => f_L_law_b1220 L9 xs9 k23 0 130 148 (nI (4 * i)) σ) (ok_populate (xs9 (nI (4 * i) + 1).toNatClampNeg) (xs9 (nI (4 * i) + 2).toNatClampNeg) hC hA (by omega)) hM (lw_go hk)
set_option maxRecDepth 8192 in
theorem st_18 (hi : 4 * i + 4 ≤ L9) (hL : L9 ≤ 2048) (hk : lw_k k23 i) (hs : lw_ok (1000 * i + 1) I L r) : lw_1 (f_L_law_b1223 L9 xs9 k23 0 130 148 (nI (4 * i)) (pm I L r)) := by
  obtain ⟨A, n, H, t, T, P, k, hC, hM, hA⟩ := hs
  have b1 := lw_bd hi hL (q := 1) (by decide)
  have b2 := lw_bd hi hL (q := 2) (by decide)
  have b3 := lw_bd hi hL (q := 3) (by decide)
  unfold f_L_law_b1223
  simp only [show (nI (4 * i) + 1 < 0 ∨ L9 ≤ (nI (4 * i) + 1).toNatClampNeg) = False from b1, show (nI (4 * i) + 2 < 0 ∨ L9 ≤ (nI (4 * i) + 2).toNatClampNeg) = False from b2, show (nI (4 * i) + 3 < 0 ∨ L9 ≤ (nI (4 * i) + 3).toNatClampNeg) = False from b3, if_false]
  exact lw_opK (kk := fun σ => f_L_law_b1276 L9 xs9 k23 0 130 148 (nI (4 * i)) σ) (ok_distance (xs9 (nI (4 * i) + 1).toNatClampNeg) hC hA (by omega)) hM (lw_go hk)
set_option maxRecDepth 8192 in
theorem st_19 (hi : 4 * i + 4 ≤ L9) (hL : L9 ≤ 2048) (hk : lw_k k23 i) (hs : lw_ok (1000 * i + 1) I L r) : lw_1 (f_L_law_b1279 L9 xs9 k23 0 130 148 (nI (4 * i)) (pm I L r)) := by
  obtain ⟨A, n, H, t, T, P, k, hC, hM, hA⟩ := hs
  have b1 := lw_bd hi hL (q := 1) (by decide)
  have b2 := lw_bd hi hL (q := 2) (by decide)
  have b3 := lw_bd hi hL (q := 3) (by decide)
  unfold f_L_law_b1279
  simp only [show (nI (4 * i) + 1 < 0 ∨ L9 ≤ (nI (4 * i) + 1).toNatClampNeg) = False from b1, show (nI (4 * i) + 2 < 0 ∨ L9 ≤ (nI (4 * i) + 2).toNatClampNeg) = False from b2, show (nI (4 * i) + 3 < 0 ∨ L9 ≤ (nI (4 * i) + 3).toNatClampNeg) = False from b3, if_false]
  exact lw_opK (kk := fun σ => f_L_law_b1344 L9 xs9 k23 0 130 148 (nI (4 * i)) σ) (ok_pathAt (xs9 (nI (4 * i) + 1).toNatClampNeg) (xs9 (nI (4 * i) + 2).toNatClampNeg) hC hA (by omega)) hM (lw_go hk)
set_option maxRecDepth 8192 in
theorem st_20 (hi : 4 * i + 4 ≤ L9) (hL : L9 ≤ 2048) (hk : lw_k k23 i) (hs : lw_ok (1000 * i + 1) I L r) : lw_1 (f_L_law_b1347 L9 xs9 k23 0 130 148 (nI (4 * i)) (pm I L r)) := by
  obtain ⟨A, n, H, t, T, P, k, hC, hM, hA⟩ := hs
  have b1 := lw_bd hi hL (q := 1) (by decide)
  have b2 := lw_bd hi hL (q := 2) (by decide)
  have b3 := lw_bd hi hL (q := 3) (by decide)
  unfold f_L_law_b1347
  simp only [show (nI (4 * i) + 1 < 0 ∨ L9 ≤ (nI (4 * i) + 1).toNatClampNeg) = False from b1, show (nI (4 * i) + 2 < 0 ∨ L9 ≤ (nI (4 * i) + 2).toNatClampNeg) = False from b2, show (nI (4 * i) + 3 < 0 ∨ L9 ≤ (nI (4 * i) + 3).toNatClampNeg) = False from b3, if_false]
  exact lw_opKb (kk := fun σ => f_L_law_b1419 L9 xs9 k23 0 130 148 (nI (4 * i)) σ) (k2 := fun a b σ => f_L_law_b1413 L9 xs9 k23 0 130 148 (nI (4 * i)) a b σ) (ok_dominates (xs9 (nI (4 * i) + 1).toNatClampNeg) (xs9 (nI (4 * i) + 2).toNatClampNeg) hC hA (by omega)) hM (fun _ _ _ => rfl) (lw_go hk)
set_option maxRecDepth 8192 in
theorem st_21 (hi : 4 * i + 4 ≤ L9) (hL : L9 ≤ 2048) (hk : lw_k k23 i) (hs : lw_ok (1000 * i + 1) I L r) : lw_1 (f_L_law_b1422 L9 xs9 k23 0 130 148 (nI (4 * i)) (pm I L r)) := by
  obtain ⟨A, n, H, t, T, P, k, hC, hM, hA⟩ := hs
  have b1 := lw_bd hi hL (q := 1) (by decide)
  have b2 := lw_bd hi hL (q := 2) (by decide)
  have b3 := lw_bd hi hL (q := 3) (by decide)
  unfold f_L_law_b1422
  simp only [show (nI (4 * i) + 1 < 0 ∨ L9 ≤ (nI (4 * i) + 1).toNatClampNeg) = False from b1, show (nI (4 * i) + 2 < 0 ∨ L9 ≤ (nI (4 * i) + 2).toNatClampNeg) = False from b2, show (nI (4 * i) + 3 < 0 ∨ L9 ≤ (nI (4 * i) + 3).toNatClampNeg) = False from b3, if_false]
  exact lw_opK (kk := fun σ => f_L_law_b1475 L9 xs9 k23 0 130 148 (nI (4 * i)) σ) (ok_dominator (xs9 (nI (4 * i) + 1).toNatClampNeg) hC hA (by omega)) hM (lw_go hk)
set_option maxRecDepth 8192 in
theorem st_22 (hi : 4 * i + 4 ≤ L9) (hL : L9 ≤ 2048) (hk : lw_k k23 i) (hs : lw_ok (1000 * i + 1) I L r) : lw_1 (f_L_law_b1478 L9 xs9 k23 0 130 148 (nI (4 * i)) (pm I L r)) := by
  obtain ⟨A, n, H, t, T, P, k, hC, hM, hA⟩ := hs
  have b1 := lw_bd hi hL (q := 1) (by decide)
  have b2 := lw_bd hi hL (q := 2) (by decide)
  have b3 := lw_bd hi hL (q := 3) (by decide)
  unfold f_L_law_b1478
  simp only [show (nI (4 * i) + 1 < 0 ∨ L9 ≤ (nI (4 * i) + 1).toNatClampNeg) = False from b1, show (nI (4 * i) + 2 < 0 ∨ L9 ≤ (nI (4 * i) + 2).toNatClampNeg) = False from b2, show (nI (4 * i) + 3 < 0 ∨ L9 ≤ (nI (4 * i) + 3).toNatClampNeg) = False from b3, if_false]
  exact lw_opK (kk := fun σ => f_L_law_b1531 L9 xs9 k23 0 130 148 (nI (4 * i)) σ) (ok_depth (xs9 (nI (4 * i) + 1).toNatClampNeg) hC hA (by omega)) hM (lw_go hk)
set_option maxRecDepth 8192 in
theorem st_23 (hi : 4 * i + 4 ≤ L9) (hL : L9 ≤ 2048) (hk : lw_k k23 i) (hs : lw_ok (1000 * i + 1) I L r) : lw_1 (f_L_law_b1534 L9 xs9 k23 0 130 148 (nI (4 * i)) (pm I L r)) := by
  obtain ⟨A, n, H, t, T, P, k, hC, hM, hA⟩ := hs
  have b1 := lw_bd hi hL (q := 1) (by decide)
  have b2 := lw_bd hi hL (q := 2) (by decide)
  have b3 := lw_bd hi hL (q := 3) (by decide)
  unfold f_L_law_b1534
  simp only [show (nI (4 * i) + 1 < 0 ∨ L9 ≤ (nI (4 * i) + 1).toNatClampNeg) = False from b1, show (nI (4 * i) + 2 < 0 ∨ L9 ≤ (nI (4 * i) + 2).toNatClampNeg) = False from b2, show (nI (4 * i) + 3 < 0 ∨ L9 ≤ (nI (4 * i) + 3).toNatClampNeg) = False from b3, if_false]
  exact lw_opK (kk := fun σ => f_L_law_b1599 L9 xs9 k23 0 130 148 (nI (4 * i)) σ) (ok_dominatedAt (xs9 (nI (4 * i) + 1).toNatClampNeg) (xs9 (nI (4 * i) + 2).toNatClampNeg) hC hA (by omega)) hM (lw_go hk)
set_option maxRecDepth 8192 in
theorem st_24 (hi : 4 * i + 4 ≤ L9) (hL : L9 ≤ 2048) (hk : lw_k k23 i) (hs : lw_ok (1000 * i + 1) I L r) : lw_1 (f_L_law_b1602 L9 xs9 k23 0 130 148 (nI (4 * i)) (pm I L r)) := by
  obtain ⟨A, n, H, t, T, P, k, hC, hM, hA⟩ := hs
  have b1 := lw_bd hi hL (q := 1) (by decide)
  have b2 := lw_bd hi hL (q := 2) (by decide)
  have b3 := lw_bd hi hL (q := 3) (by decide)
  unfold f_L_law_b1602
  simp only [show (nI (4 * i) + 1 < 0 ∨ L9 ≤ (nI (4 * i) + 1).toNatClampNeg) = False from b1, show (nI (4 * i) + 2 < 0 ∨ L9 ≤ (nI (4 * i) + 2).toNatClampNeg) = False from b2, show (nI (4 * i) + 3 < 0 ∨ L9 ≤ (nI (4 * i) + 3).toNatClampNeg) = False from b3, if_false]
  exact lw_opK (kk := fun σ => f_L_law_b1655 L9 xs9 k23 0 130 148 (nI (4 * i)) σ) (ok_retainedSize (xs9 (nI (4 * i) + 1).toNatClampNeg) hC hA (by omega)) hM (lw_go hk)
set_option maxRecDepth 8192 in
theorem st_25 (hi : 4 * i + 4 ≤ L9) (hL : L9 ≤ 2048) (hk : lw_k k23 i) (hs : lw_ok (1000 * i + 1) I L r) : lw_1 (f_L_law_b1658 L9 xs9 k23 0 130 148 (nI (4 * i)) (pm I L r)) := by
  obtain ⟨A, n, H, t, T, P, k, hC, hM, hA⟩ := hs
  have b1 := lw_bd hi hL (q := 1) (by decide)
  have b2 := lw_bd hi hL (q := 2) (by decide)
  have b3 := lw_bd hi hL (q := 3) (by decide)
  unfold f_L_law_b1658
  simp only [show (nI (4 * i) + 1 < 0 ∨ L9 ≤ (nI (4 * i) + 1).toNatClampNeg) = False from b1, show (nI (4 * i) + 2 < 0 ∨ L9 ≤ (nI (4 * i) + 2).toNatClampNeg) = False from b2, show (nI (4 * i) + 3 < 0 ∨ L9 ≤ (nI (4 * i) + 3).toNatClampNeg) = False from b3, if_false]
  exact lw_opK (kk := fun σ => f_L_law_b1711 L9 xs9 k23 0 130 148 (nI (4 * i)) σ) (ok_retainedObjects (xs9 (nI (4 * i) + 1).toNatClampNeg) hC hA (by omega)) hM (lw_go hk)
set_option maxRecDepth 8192 in
theorem st_26 (hi : 4 * i + 4 ≤ L9) (hL : L9 ≤ 2048) (hk : lw_k k23 i) (hs : lw_ok (1000 * i + 1) I L r) : lw_1 (f_L_law_b1714 L9 xs9 k23 0 130 148 (nI (4 * i)) (pm I L r)) := by
  obtain ⟨A, n, H, t, T, P, k, hC, hM, hA⟩ := hs
  have b1 := lw_bd hi hL (q := 1) (by decide)
  have b2 := lw_bd hi hL (q := 2) (by decide)
  have b3 := lw_bd hi hL (q := 3) (by decide)
  unfold f_L_law_b1714
  simp only [show (nI (4 * i) + 1 < 0 ∨ L9 ≤ (nI (4 * i) + 1).toNatClampNeg) = False from b1, show (nI (4 * i) + 2 < 0 ∨ L9 ≤ (nI (4 * i) + 2).toNatClampNeg) = False from b2, show (nI (4 * i) + 3 < 0 ∨ L9 ≤ (nI (4 * i) + 3).toNatClampNeg) = False from b3, if_false]
  exact lw_opK (kk := fun σ => f_L_law_b1767 L9 xs9 k23 0 130 148 (nI (4 * i)) σ) (ok_component (xs9 (nI (4 * i) + 1).toNatClampNeg) hC hA (by omega)) hM (lw_go hk)
set_option maxRecDepth 8192 in
theorem st_27 (hi : 4 * i + 4 ≤ L9) (hL : L9 ≤ 2048) (hk : lw_k k23 i) (hs : lw_ok (1000 * i + 1) I L r) : lw_1 (f_L_law_b1770 L9 xs9 k23 0 130 148 (nI (4 * i)) (pm I L r)) := by
  obtain ⟨A, n, H, t, T, P, k, hC, hM, hA⟩ := hs
  have b1 := lw_bd hi hL (q := 1) (by decide)
  have b2 := lw_bd hi hL (q := 2) (by decide)
  have b3 := lw_bd hi hL (q := 3) (by decide)
  unfold f_L_law_b1770
  simp only [show (nI (4 * i) + 1 < 0 ∨ L9 ≤ (nI (4 * i) + 1).toNatClampNeg) = False from b1, show (nI (4 * i) + 2 < 0 ∨ L9 ≤ (nI (4 * i) + 2).toNatClampNeg) = False from b2, show (nI (4 * i) + 3 < 0 ∨ L9 ≤ (nI (4 * i) + 3).toNatClampNeg) = False from b3, if_false]
  exact lw_opK (kk := fun σ => f_L_law_b1823 L9 xs9 k23 0 130 148 (nI (4 * i)) σ) (ok_componentSize (xs9 (nI (4 * i) + 1).toNatClampNeg) hC hA (by omega)) hM (lw_go hk)
set_option maxRecDepth 8192 in
theorem st_28 (hi : 4 * i + 4 ≤ L9) (hL : L9 ≤ 2048) (hk : lw_k k23 i) (hs : lw_ok (1000 * i + 1) I L r) : lw_1 (f_L_law_b1826 L9 xs9 k23 0 130 148 (nI (4 * i)) (pm I L r)) := by
  obtain ⟨A, n, H, t, T, P, k, hC, hM, hA⟩ := hs
  have b1 := lw_bd hi hL (q := 1) (by decide)
  have b2 := lw_bd hi hL (q := 2) (by decide)
  have b3 := lw_bd hi hL (q := 3) (by decide)
  unfold f_L_law_b1826
  simp only [show (nI (4 * i) + 1 < 0 ∨ L9 ≤ (nI (4 * i) + 1).toNatClampNeg) = False from b1, show (nI (4 * i) + 2 < 0 ∨ L9 ≤ (nI (4 * i) + 2).toNatClampNeg) = False from b2, show (nI (4 * i) + 3 < 0 ∨ L9 ≤ (nI (4 * i) + 3).toNatClampNeg) = False from b3, if_false]
  exact lw_opK (kk := fun σ => f_L_law_b1891 L9 xs9 k23 0 130 148 (nI (4 * i)) σ) (ok_freedByClearing (xs9 (nI (4 * i) + 1).toNatClampNeg) (xs9 (nI (4 * i) + 2).toNatClampNeg) hC hA (by omega)) hM (lw_go hk)
set_option maxRecDepth 8192 in
theorem st_29 (hi : 4 * i + 4 ≤ L9) (hL : L9 ≤ 2048) (hk : lw_k k23 i) (hs : lw_ok (1000 * i + 1) I L r) : lw_1 (f_L_law_b1894 L9 xs9 k23 0 130 148 (nI (4 * i)) (pm I L r)) := by
  obtain ⟨A, n, H, t, T, P, k, hC, hM, hA⟩ := hs
  have b1 := lw_bd hi hL (q := 1) (by decide)
  have b2 := lw_bd hi hL (q := 2) (by decide)
  have b3 := lw_bd hi hL (q := 3) (by decide)
  unfold f_L_law_b1894
  simp only [show (nI (4 * i) + 1 < 0 ∨ L9 ≤ (nI (4 * i) + 1).toNatClampNeg) = False from b1, show (nI (4 * i) + 2 < 0 ∨ L9 ≤ (nI (4 * i) + 2).toNatClampNeg) = False from b2, show (nI (4 * i) + 3 < 0 ∨ L9 ≤ (nI (4 * i) + 3).toNatClampNeg) = False from b3, if_false]
  exact lw_opK (kk := fun σ => f_L_law_b1947 L9 xs9 k23 0 130 148 (nI (4 * i)) σ) (ok_freedByUnrooting (xs9 (nI (4 * i) + 1).toNatClampNeg) hC hA (by omega)) hM (lw_go hk)
set_option maxRecDepth 8192 in
theorem st_30 (hi : 4 * i + 4 ≤ L9) (hL : L9 ≤ 2048) (hk : lw_k k23 i) (hs : lw_ok (1000 * i + 1) I L r) : lw_1 (f_L_law_b1950 L9 xs9 k23 0 130 148 (nI (4 * i)) (pm I L r)) := by
  obtain ⟨A, n, H, t, T, P, k, hC, hM, hA⟩ := hs
  have b1 := lw_bd hi hL (q := 1) (by decide)
  have b2 := lw_bd hi hL (q := 2) (by decide)
  have b3 := lw_bd hi hL (q := 3) (by decide)
  have hb : ∀ b : Bool, lw_1 ((f_L_group 0 (xs9 (nI (4 * i) + 1).toNatClampNeg) (xs9 (nI (4 * i) + 2).toNatClampNeg) (bI b) 148 (pm I L r)).bind fun r1 => f_L_law_b2010 L9 xs9 k23 0 130 148 (nI (4 * i)) r1.1 130 (xs9 (nI (4 * i) + 1).toNatClampNeg) (xs9 (nI (4 * i) + 2).toNatClampNeg) (bI b) r1.2) := fun b => lw_opK (kk := fun σ => f_L_law_b2043 L9 xs9 k23 0 130 148 (nI (4 * i)) σ) (ok_group (xs9 (nI (4 * i) + 1).toNatClampNeg) (xs9 (nI (4 * i) + 2).toNatClampNeg) b hC hA (by omega)) hM (lw_go hk)
  unfold f_L_law_b1950
  simp only [show (nI (4 * i) + 1 < 0 ∨ L9 ≤ (nI (4 * i) + 1).toNatClampNeg) = False from b1, show (nI (4 * i) + 2 < 0 ∨ L9 ≤ (nI (4 * i) + 2).toNatClampNeg) = False from b2, show (nI (4 * i) + 3 < 0 ∨ L9 ≤ (nI (4 * i) + 3).toNatClampNeg) = False from b3, if_false]
  by_cases e : xs9 (nI (4 * i) + 3).toNatClampNeg = 0
  · rw [if_pos e]
    unfold f_L_law_b1977
    simp only [show (nI (4 * i) + 1 < 0 ∨ L9 ≤ (nI (4 * i) + 1).toNatClampNeg) = False from b1, show (nI (4 * i) + 2 < 0 ∨ L9 ≤ (nI (4 * i) + 2).toNatClampNeg) = False from b2, show (nI (4 * i) + 3 < 0 ∨ L9 ≤ (nI (4 * i) + 3).toNatClampNeg) = False from b3, if_false]
    simp only [if_pos e]
    exact hb false
  · rw [if_neg e]
    unfold f_L_law_b1977
    simp only [show (nI (4 * i) + 1 < 0 ∨ L9 ≤ (nI (4 * i) + 1).toNatClampNeg) = False from b1, show (nI (4 * i) + 2 < 0 ∨ L9 ≤ (nI (4 * i) + 2).toNatClampNeg) = False from b2, show (nI (4 * i) + 3 < 0 ∨ L9 ≤ (nI (4 * i) + 3).toNatClampNeg) = False from b3, if_false]
    simp only [if_neg e]
    exact hb true
set_option maxRecDepth 8192 in
theorem st_31 (hi : 4 * i + 4 ≤ L9) (hL : L9 ≤ 2048) (hk : lw_k k23 i) (hs : lw_ok (1000 * i + 1) I L r) : lw_1 (f_L_law_b2046 L9 xs9 k23 0 130 148 (nI (4 * i)) (pm I L r)) := by
  obtain ⟨A, n, H, t, T, P, k, hC, hM, hA⟩ := hs
  have b1 := lw_bd hi hL (q := 1) (by decide)
  have b2 := lw_bd hi hL (q := 2) (by decide)
  have b3 := lw_bd hi hL (q := 3) (by decide)
  unfold f_L_law_b2046
  simp only [show (nI (4 * i) + 1 < 0 ∨ L9 ≤ (nI (4 * i) + 1).toNatClampNeg) = False from b1, show (nI (4 * i) + 2 < 0 ∨ L9 ≤ (nI (4 * i) + 2).toNatClampNeg) = False from b2, show (nI (4 * i) + 3 < 0 ∨ L9 ≤ (nI (4 * i) + 3).toNatClampNeg) = False from b3, if_false]
  exact lw_opK (wd := id) (kk := fun σ => f_L_law_b2098 L9 xs9 k23 0 130 148 (nI (4 * i)) σ) (ok_meanRetainedBits (xs9 (nI (4 * i) + 1).toNatClampNeg) hC hA (by omega)) hM (lw_go hk)
set_option maxRecDepth 8192 in
theorem st_32 (hi : 4 * i + 4 ≤ L9) (hL : L9 ≤ 2048) (hk : lw_k k23 i) (hs : lw_ok (1000 * i + 1) I L r) : lw_1 (f_L_law_b2101 L9 xs9 k23 0 130 148 (nI (4 * i)) (pm I L r)) := by
  obtain ⟨A, n, H, t, T, P, k, hC, hM, hA⟩ := hs
  have b1 := lw_bd hi hL (q := 1) (by decide)
  have b2 := lw_bd hi hL (q := 2) (by decide)
  have b3 := lw_bd hi hL (q := 3) (by decide)
  unfold f_L_law_b2101
  simp only [show (nI (4 * i) + 1 < 0 ∨ L9 ≤ (nI (4 * i) + 1).toNatClampNeg) = False from b1, show (nI (4 * i) + 2 < 0 ∨ L9 ≤ (nI (4 * i) + 2).toNatClampNeg) = False from b2, show (nI (4 * i) + 3 < 0 ∨ L9 ≤ (nI (4 * i) + 3).toNatClampNeg) = False from b3, if_false]
  exact lw_opK (kk := fun σ => f_L_law_b2154 L9 xs9 k23 0 130 148 (nI (4 * i)) σ) (ok_shareBits (xs9 (nI (4 * i) + 1).toNatClampNeg) hC hA (by omega)) hM (lw_go hk)
set_option maxRecDepth 8192 in
theorem st_33 (hi : 4 * i + 4 ≤ L9) (hL : L9 ≤ 2048) (hk : lw_k k23 i) (hs : lw_ok (1000 * i + 1) I L r) : lw_1 (f_L_law_b2157 L9 xs9 k23 0 130 148 (nI (4 * i)) (pm I L r)) := by
  obtain ⟨A, n, H, t, T, P, k, hC, hM, hA⟩ := hs
  have b1 := lw_bd hi hL (q := 1) (by decide)
  have b2 := lw_bd hi hL (q := 2) (by decide)
  have b3 := lw_bd hi hL (q := 3) (by decide)
  unfold f_L_law_b2157
  simp only [show (nI (4 * i) + 1 < 0 ∨ L9 ≤ (nI (4 * i) + 1).toNatClampNeg) = False from b1, show (nI (4 * i) + 2 < 0 ∨ L9 ≤ (nI (4 * i) + 2).toNatClampNeg) = False from b2, show (nI (4 * i) + 3 < 0 ∨ L9 ≤ (nI (4 * i) + 3).toNatClampNeg) = False from b3, if_false]
  exact lw_opK (kk := fun σ => f_L_law_b2222 L9 xs9 k23 0 130 148 (nI (4 * i)) σ) (ok_suspectAt (xs9 (nI (4 * i) + 1).toNatClampNeg) (xs9 (nI (4 * i) + 2).toNatClampNeg) hC hA (by omega)) hM (lw_go hk)
set_option maxRecDepth 8192 in
theorem st_34 (hi : 4 * i + 4 ≤ L9) (hL : L9 ≤ 2048) (hk : lw_k k23 i) (hs : lw_ok (1000 * i + 1) I L r) : lw_1 (f_L_law_b2225 L9 xs9 k23 0 130 148 (nI (4 * i)) (pm I L r)) := by
  obtain ⟨A, n, H, t, T, P, k, hC, hM, hA⟩ := hs
  have b1 := lw_bd hi hL (q := 1) (by decide)
  have b2 := lw_bd hi hL (q := 2) (by decide)
  have b3 := lw_bd hi hL (q := 3) (by decide)
  unfold f_L_law_b2225
  simp only [show (nI (4 * i) + 1 < 0 ∨ L9 ≤ (nI (4 * i) + 1).toNatClampNeg) = False from b1, show (nI (4 * i) + 2 < 0 ∨ L9 ≤ (nI (4 * i) + 2).toNatClampNeg) = False from b2, show (nI (4 * i) + 3 < 0 ∨ L9 ≤ (nI (4 * i) + 3).toNatClampNeg) = False from b3, if_false]
  exact lw_opK (kk := fun σ => f_L_law_b2290 L9 xs9 k23 0 130 148 (nI (4 * i)) σ) (ok_accumulationPoint (xs9 (nI (4 * i) + 1).toNatClampNeg) (xs9 (nI (4 * i) + 2).toNatClampNeg) hC hA (by omega)) hM (lw_go hk)
set_option maxRecDepth 8192 in
theorem st_35 (hi : 4 * i + 4 ≤ L9) (hL : L9 ≤ 2048) (hk : lw_k k23 i) (hs : lw_ok (1000 * i + 1) I L r) : lw_1 (f_L_law_b2293 L9 xs9 k23 0 130 148 (nI (4 * i)) (pm I L r)) := by
  obtain ⟨A, n, H, t, T, P, k, hC, hM, hA⟩ := hs
  have b1 := lw_bd hi hL (q := 1) (by decide)
  have b2 := lw_bd hi hL (q := 2) (by decide)
  have b3 := lw_bd hi hL (q := 3) (by decide)
  unfold f_L_law_b2293
  simp only [show (nI (4 * i) + 1 < 0 ∨ L9 ≤ (nI (4 * i) + 1).toNatClampNeg) = False from b1, show (nI (4 * i) + 2 < 0 ∨ L9 ≤ (nI (4 * i) + 2).toNatClampNeg) = False from b2, show (nI (4 * i) + 3 < 0 ∨ L9 ≤ (nI (4 * i) + 3).toNatClampNeg) = False from b3, if_false]
  exact lw_opK (kk := fun σ => f_L_law_b2346 L9 xs9 k23 0 130 148 (nI (4 * i)) σ) (ok_append (xs9 (nI (4 * i) + 1).toNatClampNeg) hC hA (by omega)) hM (lw_go hk)
set_option maxRecDepth 8192 in
theorem st_36 (hi : 4 * i + 4 ≤ L9) (hL : L9 ≤ 2048) (hk : lw_k k23 i) (hs : lw_ok (1000 * i + 1) I L r) : lw_1 (f_L_law_b2349 L9 xs9 k23 0 130 148 (nI (4 * i)) (pm I L r)) := by
  obtain ⟨A, n, H, t, T, P, k, hC, hM, hA⟩ := hs
  have b1 := lw_bd hi hL (q := 1) (by decide)
  have b2 := lw_bd hi hL (q := 2) (by decide)
  have b3 := lw_bd hi hL (q := 3) (by decide)
  unfold f_L_law_b2349
  exact lw_opD (kk := fun σ => f_L_law_b2704 L9 xs9 k23 0 130 148 (nI (4 * i)) σ) (Q := fun a b => a = b) (dQ := fun a b => inferInstance) (fun _ => rfl) (od_clearText  hC hA (by omega)) hM (lw_go hk)
set_option maxRecDepth 8192 in
theorem st_37 (hi : 4 * i + 4 ≤ L9) (hL : L9 ≤ 2048) (hk : lw_k k23 i) (hs : lw_ok (1000 * i + 1) I L r) : lw_1 (f_L_law_b2362 L9 xs9 k23 0 130 148 (nI (4 * i)) (pm I L r)) := by
  obtain ⟨A, n, H, t, T, P, k, hC, hM, hA⟩ := hs
  have b1 := lw_bd hi hL (q := 1) (by decide)
  have b2 := lw_bd hi hL (q := 2) (by decide)
  have b3 := lw_bd hi hL (q := 3) (by decide)
  unfold f_L_law_b2362
  exact lw_opD (kk := fun σ => f_L_law_b2704 L9 xs9 k23 0 130 148 (nI (4 * i)) σ) (Q := fun a b => a = b) (dQ := fun a b => inferInstance) (fun _ => rfl) (od_matches  hC hA (by omega)) hM (lw_go hk)
set_option maxRecDepth 8192 in
theorem st_38 (hi : 4 * i + 4 ≤ L9) (hL : L9 ≤ 2048) (hk : lw_k k23 i) (hs : lw_ok (1000 * i + 1) I L r) : lw_1 (f_L_law_b2375 L9 xs9 k23 0 130 148 (nI (4 * i)) (pm I L r)) := by
  obtain ⟨A, n, H, t, T, P, k, hC, hM, hA⟩ := hs
  have b1 := lw_bd hi hL (q := 1) (by decide)
  have b2 := lw_bd hi hL (q := 2) (by decide)
  have b3 := lw_bd hi hL (q := 3) (by decide)
  unfold f_L_law_b2375
  simp only [show (nI (4 * i) + 1 < 0 ∨ L9 ≤ (nI (4 * i) + 1).toNatClampNeg) = False from b1, show (nI (4 * i) + 2 < 0 ∨ L9 ≤ (nI (4 * i) + 2).toNatClampNeg) = False from b2, show (nI (4 * i) + 3 < 0 ∨ L9 ≤ (nI (4 * i) + 3).toNatClampNeg) = False from b3, if_false]
  exact lw_opD (kk := fun σ => f_L_law_b2704 L9 xs9 k23 0 130 148 (nI (4 * i)) σ) (Q := fun a b => a = b) (dQ := fun a b => inferInstance) (fun _ => rfl) (od_matchAt (xs9 (nI (4 * i) + 1).toNatClampNeg) hC hA (by omega)) hM (lw_go hk)
set_option maxRecDepth 8192 in
theorem st_39 (hi : 4 * i + 4 ≤ L9) (hL : L9 ≤ 2048) (hk : lw_k k23 i) (hs : lw_ok (1000 * i + 1) I L r) : lw_1 (f_L_law_b2400 L9 xs9 k23 0 130 148 (nI (4 * i)) (pm I L r)) := by
  obtain ⟨A, n, H, t, T, P, k, hC, hM, hA⟩ := hs
  have b1 := lw_bd hi hL (q := 1) (by decide)
  have b2 := lw_bd hi hL (q := 2) (by decide)
  have b3 := lw_bd hi hL (q := 3) (by decide)
  have hb : ∀ b : Bool, lw_1 ((hb_on (pm I L r) 0 8 (f_X8_matchSize 0 (bI b) (pm I L r))).bind fun r1 => f_L_law_b2433 L9 xs9 k23 0 130 148 (nI (4 * i)) r1.1 130 (bI b) r1.2) := fun b => lw_opD (kk := fun σ => f_L_law_b2704 L9 xs9 k23 0 130 148 (nI (4 * i)) σ) (Q := fun a b => a = b) (dQ := fun a b => inferInstance) (fun _ => rfl) (od_matchSize b hC hA (by omega)) hM (lw_go hk)
  unfold f_L_law_b2400
  simp only [show (nI (4 * i) + 1 < 0 ∨ L9 ≤ (nI (4 * i) + 1).toNatClampNeg) = False from b1, show (nI (4 * i) + 2 < 0 ∨ L9 ≤ (nI (4 * i) + 2).toNatClampNeg) = False from b2, show (nI (4 * i) + 3 < 0 ∨ L9 ≤ (nI (4 * i) + 3).toNatClampNeg) = False from b3, if_false]
  by_cases e : xs9 (nI (4 * i) + 1).toNatClampNeg = 0
  · rw [if_pos e]
    unfold f_L_law_b2415
    simp only [show (nI (4 * i) + 1 < 0 ∨ L9 ≤ (nI (4 * i) + 1).toNatClampNeg) = False from b1, show (nI (4 * i) + 2 < 0 ∨ L9 ≤ (nI (4 * i) + 2).toNatClampNeg) = False from b2, show (nI (4 * i) + 3 < 0 ∨ L9 ≤ (nI (4 * i) + 3).toNatClampNeg) = False from b3, if_false]
    simp only [if_pos e]
    exact hb false
  · rw [if_neg e]
    unfold f_L_law_b2415
    simp only [show (nI (4 * i) + 1 < 0 ∨ L9 ≤ (nI (4 * i) + 1).toNatClampNeg) = False from b1, show (nI (4 * i) + 2 < 0 ∨ L9 ≤ (nI (4 * i) + 2).toNatClampNeg) = False from b2, show (nI (4 * i) + 3 < 0 ∨ L9 ≤ (nI (4 * i) + 3).toNatClampNeg) = False from b3, if_false]
    simp only [if_neg e]
    exact hb true
set_option maxRecDepth 8192 in
theorem st_40 (hi : 4 * i + 4 ≤ L9) (hL : L9 ≤ 2048) (hk : lw_k k23 i) (hs : lw_ok (1000 * i + 1) I L r) : lw_1 (f_L_law_b2441 L9 xs9 k23 0 130 148 (nI (4 * i)) (pm I L r)) := by
  obtain ⟨A, n, H, t, T, P, k, hC, hM, hA⟩ := hs
  have b1 := lw_bd hi hL (q := 1) (by decide)
  have b2 := lw_bd hi hL (q := 2) (by decide)
  have b3 := lw_bd hi hL (q := 3) (by decide)
  unfold f_L_law_b2441
  exact lw_opD (kk := fun σ => f_L_law_b2704 L9 xs9 k23 0 130 148 (nI (4 * i)) σ) (Q := fun a b => a = b) (dQ := fun a b => inferInstance) (fun _ => rfl) (od_execute  hC hA (by omega)) hM (lw_go hk)
set_option maxRecDepth 8192 in
theorem st_41 (hi : 4 * i + 4 ≤ L9) (hL : L9 ≤ 2048) (hk : lw_k k23 i) (hs : lw_ok (1000 * i + 1) I L r) : lw_1 (f_L_law_b2454 L9 xs9 k23 0 130 148 (nI (4 * i)) (pm I L r)) := by
  obtain ⟨A, n, H, t, T, P, k, hC, hM, hA⟩ := hs
  have b1 := lw_bd hi hL (q := 1) (by decide)
  have b2 := lw_bd hi hL (q := 2) (by decide)
  have b3 := lw_bd hi hL (q := 3) (by decide)
  unfold f_L_law_b2454
  simp only [show (nI (4 * i) + 1 < 0 ∨ L9 ≤ (nI (4 * i) + 1).toNatClampNeg) = False from b1, show (nI (4 * i) + 2 < 0 ∨ L9 ≤ (nI (4 * i) + 2).toNatClampNeg) = False from b2, show (nI (4 * i) + 3 < 0 ∨ L9 ≤ (nI (4 * i) + 3).toNatClampNeg) = False from b3, if_false]
  exact lw_opK (kk := fun σ => f_L_law_b2507 L9 xs9 k23 0 130 148 (nI (4 * i)) σ) (ok_take (xs9 (nI (4 * i) + 1).toNatClampNeg) hC hA (by omega)) hM (lw_go hk)
set_option maxRecDepth 8192 in
theorem st_42 (hi : 4 * i + 4 ≤ L9) (hL : L9 ≤ 2048) (hk : lw_k k23 i) (hs : lw_ok (1000 * i + 1) I L r) : lw_1 (f_L_law_b2510 L9 xs9 k23 0 130 148 (nI (4 * i)) (pm I L r)) := by
  obtain ⟨A, n, H, t, T, P, k, hC, hM, hA⟩ := hs
  have b1 := lw_bd hi hL (q := 1) (by decide)
  have b2 := lw_bd hi hL (q := 2) (by decide)
  have b3 := lw_bd hi hL (q := 3) (by decide)
  unfold f_L_law_b2510
  simp only [show (nI (4 * i) + 1 < 0 ∨ L9 ≤ (nI (4 * i) + 1).toNatClampNeg) = False from b1, show (nI (4 * i) + 2 < 0 ∨ L9 ≤ (nI (4 * i) + 2).toNatClampNeg) = False from b2, show (nI (4 * i) + 3 < 0 ∨ L9 ≤ (nI (4 * i) + 3).toNatClampNeg) = False from b3, if_false]
  exact lw_opK (kk := fun σ => f_L_law_b2575 L9 xs9 k23 0 130 148 (nI (4 * i)) σ) (ok_compare (xs9 (nI (4 * i) + 1).toNatClampNeg) (xs9 (nI (4 * i) + 2).toNatClampNeg) hC hA (by omega)) hM (lw_go hk)
set_option maxRecDepth 8192 in
theorem st_43 (hi : 4 * i + 4 ≤ L9) (hL : L9 ≤ 2048) (hk : lw_k k23 i) (hs : lw_ok (1000 * i + 1) I L r) : lw_1 (f_L_law_b2578 L9 xs9 k23 0 130 148 (nI (4 * i)) (pm I L r)) := by
  obtain ⟨A, n, H, t, T, P, k, hC, hM, hA⟩ := hs
  have b1 := lw_bd hi hL (q := 1) (by decide)
  have b2 := lw_bd hi hL (q := 2) (by decide)
  have b3 := lw_bd hi hL (q := 3) (by decide)
  unfold f_L_law_b2578
  simp only [show (nI (4 * i) + 1 < 0 ∨ L9 ≤ (nI (4 * i) + 1).toNatClampNeg) = False from b1, show (nI (4 * i) + 2 < 0 ∨ L9 ≤ (nI (4 * i) + 2).toNatClampNeg) = False from b2, show (nI (4 * i) + 3 < 0 ∨ L9 ≤ (nI (4 * i) + 3).toNatClampNeg) = False from b3, if_false]
  exact lw_opK (kk := fun σ => f_L_law_b2643 L9 xs9 k23 0 130 148 (nI (4 * i)) σ) (ok_growth (xs9 (nI (4 * i) + 1).toNatClampNeg) (xs9 (nI (4 * i) + 2).toNatClampNeg) hC hA (by omega)) hM (lw_go hk)
set_option maxRecDepth 8192 in
theorem st_44 (hi : 4 * i + 4 ≤ L9) (hL : L9 ≤ 2048) (hk : lw_k k23 i) (hs : lw_ok (1000 * i + 1) I L r) : lw_1 (f_L_law_b2646 L9 xs9 k23 0 130 148 (nI (4 * i)) (pm I L r)) := by
  obtain ⟨A, n, H, t, T, P, k, hC, hM, hA⟩ := hs
  have b1 := lw_bd hi hL (q := 1) (by decide)
  have b2 := lw_bd hi hL (q := 2) (by decide)
  have b3 := lw_bd hi hL (q := 3) (by decide)
  unfold f_L_law_b2646
  exact lw_opK (kk := fun σ => f_L_law_b2687 L9 xs9 k23 0 130 148 (nI (4 * i)) σ) (ok_undo  hC hA (by omega)) hM (lw_go hk)
set_option maxRecDepth 8192 in
theorem st_45 (hi : 4 * i + 4 ≤ L9) (hL : L9 ≤ 2048) (hk : lw_k k23 i) (hs : lw_ok (1000 * i + 1) I L r) : lw_1 (f_L_law_b2690 L9 xs9 k23 0 130 148 (nI (4 * i)) (pm I L r)) := by
  obtain ⟨A, n, H, t, T, P, k, hC, hM, hA⟩ := hs
  have b1 := lw_bd hi hL (q := 1) (by decide)
  have b2 := lw_bd hi hL (q := 2) (by decide)
  have b3 := lw_bd hi hL (q := 3) (by decide)
  unfold f_L_law_b2690
  exact lw_opD (kk := fun σ => f_L_law_b2704 L9 xs9 k23 0 130 148 (nI (4 * i)) σ) (Q := fun a b : Int64 => lg_cmp a b = 0) (dQ := fun a b => inferInstance) (fun a => pb_cmp0.mpr rfl) (od_digest  hC hA (by omega)) hM (lw_go hk)
set_option maxRecDepth 8192 in
theorem lw_cmp (hL : L9 ≤ 2048) (hi : i ≤ 520) : (Int32.ofNat L9 - (4 : Int32) < nI (4 * i)) = (L9 < 4 * i + 4) := by
  have h1 : (nI (4 * i)).toInt = ((4 * i : Nat) : Int) := nI_toInt (by omega)
  have h2 : (Int32.ofNat L9).toInt = (L9 : Int) := nI_toInt (show L9 < 2 ^ 31 from by omega)
  have h3 : (Int32.ofNat L9 - (4 : Int32)).toInt = (L9 : Int) - 4 := by
    rw [Int32.toInt_sub, h2, show (4 : Int32).toInt = 4 from by decide]
    refine Int.bmod_eq_of_le ?_ ?_ <;> omega
  rw [Int32.lt_iff_toInt_lt, h1, h3]
  apply propext
  omega
set_option maxRecDepth 8192 in
theorem lw_end (hL : L9 ≤ 2048) (hi : i ≤ 520) (h : L9 < 4 * i + 4) : Int32.ofNat L9 - (4 : Int32) < nI (4 * i) := by
  rw [lw_cmp hL hi]
  exact h
set_option maxRecDepth 8192 in
theorem lw_in (hL : L9 ≤ 2048) (h : 4 * i + 4 ≤ L9) : ¬ Int32.ofNat L9 - (4 : Int32) < nI (4 * i) := by
  rw [lw_cmp hL (by omega)]
  omega
set_option maxRecDepth 8192 in
theorem lw_loop (hL : L9 ≤ 2048) : ∀ d i F (I : Nat → Nat → Int32) (L : Nat → Nat → Int64) (r : Nat → Option Nat), L9 < 4 * i + 4 * d + 4 → i + d ≤ 520 → d < F → lw_ok (1000 * i + 1) I L r → lw_1 (f_L_law_b23 L9 xs9 F 0 130 148 (nI (4 * i)) (pm I L r)) := by
  intro d
  induction d with
  | zero =>
    intro i F I L r h1 h2 h3 hs
    obtain ⟨F', rfl⟩ : ∃ F', F = F' + 1 := ⟨F - 1, by omega⟩
    rw [f_L_law_b23, if_pos (lw_end hL (by omega) (by omega))]
    exact ⟨_, rfl⟩
  | succ d ih =>
    intro i F I L r h1 h2 h3 hs
    obtain ⟨F', rfl⟩ : ∃ F', F = F' + 1 := ⟨F - 1, by omega⟩
    by_cases hi : L9 < 4 * i + 4
    · rw [f_L_law_b23, if_pos (lw_end hL (by omega) hi)]
      exact ⟨_, rfl⟩
    · have hi : 4 * i + 4 ≤ L9 := by omega
      have hk : lw_k (f_L_law_b23 L9 xs9 F') i := by
        intro J K r' hj
        have e4 : nI (4 * i) + 4 = nI (4 * (i + 1)) := by
          rw [show (4 : Int32) = nI 4 from rfl, nI_add]
          rfl
        rw [e4]
        refine ih (i + 1) F' J K r' (by omega) (by omega) (by omega) ?_
        rw [show 1000 * (i + 1) + 1 = 1000 * i + 1 + 1000 from by omega]
        exact hj
      have b0 := lw_bd hi hL (q := 0) (by decide)
      rw [nI_add, Nat.add_zero] at b0
      rw [f_L_law_b23, if_neg (lw_in hL hi)]
      simp only [show (nI (4 * i) < 0 ∨ L9 ≤ (nI (4 * i)).toNatClampNeg) = False from b0, if_false]
      obtain ⟨v, hv⟩ : ∃ v, v = xs9 (nI (4 * i)).toNatClampNeg &&& (63 : Int32) := ⟨_, rfl⟩
      obtain ⟨kf, hkf⟩ : ∃ kf, kf = f_L_law_b23 L9 xs9 F' := ⟨_, rfl⟩
      rw [← hv]
      rw [← hkf] at hk ⊢
      by_cases e : v = (0 : Int32)
      · rw [if_pos e]
        exact st_0 hi hL hk hs
      rw [if_neg e]
      clear e
      by_cases e : v = (1 : Int32)
      · rw [if_pos e]
        exact st_1 hi hL hk hs
      rw [if_neg e]
      clear e
      by_cases e : v = (2 : Int32)
      · rw [if_pos e]
        exact st_2 hi hL hk hs
      rw [if_neg e]
      clear e
      by_cases e : v = (3 : Int32)
      · rw [if_pos e]
        exact st_3 hi hL hk hs
      rw [if_neg e]
      clear e
      by_cases e : v = (4 : Int32)
      · rw [if_pos e]
        exact st_4 hi hL hk hs
      rw [if_neg e]
      clear e
      by_cases e : v = (5 : Int32)
      · rw [if_pos e]
        exact st_5 hi hL hk hs
      rw [if_neg e]
      clear e
      by_cases e : v = (6 : Int32)
      · rw [if_pos e]
        exact st_6 hi hL hk hs
      rw [if_neg e]
      clear e
      by_cases e : v = (7 : Int32)
      · rw [if_pos e]
        exact st_7 hi hL hk hs
      rw [if_neg e]
      clear e
      by_cases e : v = (8 : Int32)
      · rw [if_pos e]
        exact st_8 hi hL hk hs
      rw [if_neg e]
      clear e
      by_cases e : v = (9 : Int32)
      · rw [if_pos e]
        exact st_9 hi hL hk hs
      rw [if_neg e]
      clear e
      by_cases e : v = (10 : Int32)
      · rw [if_pos e]
        exact st_10 hi hL hk hs
      rw [if_neg e]
      clear e
      by_cases e : v = (11 : Int32)
      · rw [if_pos e]
        exact st_11 hi hL hk hs
      rw [if_neg e]
      clear e
      by_cases e : v = (12 : Int32)
      · rw [if_pos e]
        exact st_12 hi hL hk hs
      rw [if_neg e]
      clear e
      by_cases e : v = (13 : Int32)
      · rw [if_pos e]
        exact st_13 hi hL hk hs
      rw [if_neg e]
      clear e
      by_cases e : v = (14 : Int32)
      · rw [if_pos e]
        exact st_14 hi hL hk hs
      rw [if_neg e]
      clear e
      by_cases e : v = (15 : Int32)
      · rw [if_pos e]
        exact st_15 hi hL hk hs
      rw [if_neg e]
      clear e
      by_cases e : v = (16 : Int32)
      · rw [if_pos e]
        exact st_16 hi hL hk hs
      rw [if_neg e]
      clear e
      by_cases e : v = (17 : Int32)
      · rw [if_pos e]
        exact st_17 hi hL hk hs
      rw [if_neg e]
      clear e
      by_cases e : v = (18 : Int32)
      · rw [if_pos e]
        exact st_18 hi hL hk hs
      rw [if_neg e]
      clear e
      by_cases e : v = (19 : Int32)
      · rw [if_pos e]
        exact st_19 hi hL hk hs
      rw [if_neg e]
      clear e
      by_cases e : v = (20 : Int32)
      · rw [if_pos e]
        exact st_20 hi hL hk hs
      rw [if_neg e]
      clear e
      by_cases e : v = (21 : Int32)
      · rw [if_pos e]
        exact st_21 hi hL hk hs
      rw [if_neg e]
      clear e
      by_cases e : v = (22 : Int32)
      · rw [if_pos e]
        exact st_22 hi hL hk hs
      rw [if_neg e]
      clear e
      by_cases e : v = (23 : Int32)
      · rw [if_pos e]
        exact st_23 hi hL hk hs
      rw [if_neg e]
      clear e
      by_cases e : v = (24 : Int32)
      · rw [if_pos e]
        exact st_24 hi hL hk hs
      rw [if_neg e]
      clear e
      by_cases e : v = (25 : Int32)
      · rw [if_pos e]
        exact st_25 hi hL hk hs
      rw [if_neg e]
      clear e
      by_cases e : v = (26 : Int32)
      · rw [if_pos e]
        exact st_26 hi hL hk hs
      rw [if_neg e]
      clear e
      by_cases e : v = (27 : Int32)
      · rw [if_pos e]
        exact st_27 hi hL hk hs
      rw [if_neg e]
      clear e
      by_cases e : v = (28 : Int32)
      · rw [if_pos e]
        exact st_28 hi hL hk hs
      rw [if_neg e]
      clear e
      by_cases e : v = (29 : Int32)
      · rw [if_pos e]
        exact st_29 hi hL hk hs
      rw [if_neg e]
      clear e
      by_cases e : v = (30 : Int32)
      · rw [if_pos e]
        exact st_30 hi hL hk hs
      rw [if_neg e]
      clear e
      by_cases e : v = (31 : Int32)
      · rw [if_pos e]
        exact st_31 hi hL hk hs
      rw [if_neg e]
      clear e
      by_cases e : v = (32 : Int32)
      · rw [if_pos e]
        exact st_32 hi hL hk hs
      rw [if_neg e]
      clear e
      by_cases e : v = (33 : Int32)
      · rw [if_pos e]
        exact st_33 hi hL hk hs
      rw [if_neg e]
      clear e
      by_cases e : v = (34 : Int32)
      · rw [if_pos e]
        exact st_34 hi hL hk hs
      rw [if_neg e]
      clear e
      by_cases e : v = (35 : Int32)
      · rw [if_pos e]
        exact st_35 hi hL hk hs
      rw [if_neg e]
      clear e
      by_cases e : v = (36 : Int32)
      · rw [if_pos e]
        exact st_36 hi hL hk hs
      rw [if_neg e]
      clear e
      by_cases e : v = (37 : Int32)
      · rw [if_pos e]
        exact st_37 hi hL hk hs
      rw [if_neg e]
      clear e
      by_cases e : v = (38 : Int32)
      · rw [if_pos e]
        exact st_38 hi hL hk hs
      rw [if_neg e]
      clear e
      by_cases e : v = (39 : Int32)
      · rw [if_pos e]
        exact st_39 hi hL hk hs
      rw [if_neg e]
      clear e
      by_cases e : v = (40 : Int32)
      · rw [if_pos e]
        exact st_40 hi hL hk hs
      rw [if_neg e]
      clear e
      by_cases e : v = (41 : Int32)
      · rw [if_pos e]
        exact st_41 hi hL hk hs
      rw [if_neg e]
      clear e
      by_cases e : v = (42 : Int32)
      · rw [if_pos e]
        exact st_42 hi hL hk hs
      rw [if_neg e]
      clear e
      by_cases e : v = (43 : Int32)
      · rw [if_pos e]
        exact st_43 hi hL hk hs
      rw [if_neg e]
      clear e
      by_cases e : v = (44 : Int32)
      · rw [if_pos e]
        exact st_44 hi hL hk hs
      rw [if_neg e]
      clear e
      by_cases e : v = (45 : Int32)
      · rw [if_pos e]
        exact st_45 hi hL hk hs
      rw [if_neg e]
      clear e
      obtain ⟨A, n, H, t, T, P, k, hC, hM, hA⟩ := hs
      exact lw_go hk I L r ⟨A, n, H, t, T, P, k, cS_le hC (by omega), hM, aS_le hA (by omega) (by omega)⟩
end LAW
