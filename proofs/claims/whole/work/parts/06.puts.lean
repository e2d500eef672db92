theorem hb_mapset {α : Type} {n k : Nat} {f g : Nat → α} {v : α} (hk : k < n) (h1 : g k = v) (h2 : ∀ j, j ≠ k → g j = f j) : ((List.range n).map f).set k v = (List.range n).map g := by
  apply List.ext_getElem?
  intro i
  rw [List.getElem?_set]
  by_cases hi : k = i
  · subst hi
    simp [hk, h1]
  · rw [if_neg hi, List.getElem?_map, List.getElem?_map]
    cases hx : (List.range n)[i]? with
    | none => rfl
    | some j =>
      have : i = j := by
        have h9 := (List.getElem?_eq_some_iff.mp hx)
        obtain ⟨h8, h9⟩ := h9
        rw [List.getElem_range] at h9
        exact h9
      subst this
      simp [h2 i (fun z => hi z.symm)]
/-- may this method write the field: a field that isn't final; or a final one, in its own class's constructor -/
def hb_lkP (y : MethodName) (idx ci k : Nat) : Prop := ∃ (C : String) (T : u_T) (N : Nat), vwCl[ci]? = some (C, T, N) ∧ k < N ∧ (T k).1 = C ∧ (((T k).2.2.2 = false ∧ (Cond.fieldLink y.cls idx C (T k).2.1 (T k).2.2.1 ∈ hb_wl ∨ Cond.fieldLinkNest y.cls idx C (T k).2.1 (T k).2.2.1 "HeapBrowser" ∈ hb_nw)) ∨ ((T k).2.2.2 = true ∧ y.name = "<init>" ∧ C = y.cls ∧ Cond.fieldLink y.cls idx C (T k).2.1 (T k).2.2.1 ∈ hb_wl))
section HSP
variable {G : hb_G} {l : Launch} {z : Bool} {μ : hb_Y} {d rc rs pc pc' : Nat} {lv lv' : List (Nat × Value)} {st st' : List Value} {σ σ' : hb_M} {res : hb_R}
theorem hs_putV {a idx ci k n : Nat} {v : Value} (hd : decode μ.2.1 pc = .ok (.putfield idx, 3)) (hk : hb_lkP μ.1 idx ci k) (hq : σ.1[a]? = some (ci + 4, n)) (hn : k < n) (hna : narrow (hb_tyX ci k) (hb_tr G v) = hb_tr G v) (hfi : fits (hb_tyX ci k) (hb_tr G v) = true)
    (h1' : σ'.1 = σ.1) (hws : (hb_ws G σ).set a (hb_base G + a, .inr (ci, ((List.range n).map (fun k => hb_fv G σ a k (hb_ty ci k))).set k (hb_tr G v))) = hb_ws G σ') (h : hb_T G l z μ d rc rs (pc + 3) lv st σ' res) (hμ : μ.2.2.2.2.2 = false := by rfl) : hb_T G l z μ d rc rs pc lv (v :: .ref a :: st) σ res := by
  intro p e R s m args below meth c Q hC h1 h2 e1 e2 H locs cells slots ls hc hs hD hl
  obtain ⟨C, T, N, hcl, hkN, hT1, hlk⟩ := hk
  obtain ⟨hin, hty, hnm⟩ := hb_cl hcl
  have he := hb_ws_at (G := G) hq
  rw [hb_cellO] at he
  have hlen : k < ((List.range n).map (fun k => hb_fv G σ a k (hb_ty ci k))).length := by simpa using hn
  have hsame : ∀ x, s.fieldFound? (T k).1 (T k).2.1 (T k).2.2.1 = some x → s.fieldFound? C (T k).2.1 (T k).2.2.1 = some x := fun x h => by rw [hT1] at h; exact h
  have kk : ∀ (H1 : Heap) (locs1 : List Loc), va_P (G.1, G.2.1) vwCl ((hb_ws G σ).set a (hb_base G + a, .inr (ci, ((List.range n).map (fun k => hb_fv G σ a k (hb_ty ci k))).set k (hb_tr G v)))) H1 → va_D (hb_A G) ((hb_ws G σ).set a (hb_base G + a, .inr (ci, ((List.range n).map (fun k => hb_fv G σ a k (hb_ty ci k))).set k (hb_tr G v)))) → va_S (hb_A G) s.heap H1 locs1 → W p l e R s m args below meth c H1 locs1 cells slots Q (F0 m (pc + 3) ls (st.map (hb_tr G))) := by
    intro H1 locs1 hP1 _ hS1
    rw [hws] at hP1
    exact hb_stored h hC h1 h2 e1 e2 hc hs hD hl hq h1' hP1 hS1
  rcases hlk with ⟨hfin, hlk | hlk⟩ | ⟨hfin, hin2, hcy, hlk⟩
  · exact va_put hC.1 hC.2.1 hC.2.2.2.2.1 hin (hb_tyX ci) hty hnm hC.2.2.2.1 hC.2.2.2.2.2.2.1 hD.1 (hb_ws_D G σ) hD.2.1 a he hcl k hkN (hC.2.2.2.2.1 _ hlk) hsame hfin (hty k hkN) hna hfi hlen hd kk
  · exact va_putN hC.1 hC.2.1 hC.2.2.2.2.1 hin (hb_tyX ci) hty hnm hC.2.2.2.1 hC.2.2.2.2.2.2.1 hD.1 (hb_ws_D G σ) hD.2.1 a he hcl k hkN (va_Nw.use rfl (hC.2.2.2.2.2.2.2.1 _ hlk)) hsame hfin (hty k hkN) hna hfi hlen hd kk
  · exact va_putF hC.1 hC.2.1 hC.2.2.2.2.1 hin (hb_tyX ci) hty hnm hC.2.2.2.1 hC.2.2.2.2.2.2.1 hD.1 (hb_ws_D G σ) hD.2.1 a he hcl k hkN (hC.2.2.2.2.1 _ hlk) hsame hfin (by rw [(hC.2.2.2.2.2.1 hμ).1]; exact hin2) (by rw [hT1]; exact hcy) (hty k hkN) hna hfi hlen hd kk
theorem hs_putI {a idx ci k : Nat} {x : Int32} (hd : decode μ.2.1 pc = .ok (.putfield idx, 3)) (hk : hb_lkP μ.1 idx ci k) (ht : hb_tyX ci k = .int) (hv : hb_putI σ a ci k x = some σ') (h : hb_T G l z μ d rc rs (pc + 3) lv st σ' res) (hμ : μ.2.2.2.2.2 = false := by rfl) : hb_T G l z μ d rc rs pc lv (.int x :: .ref a :: st) σ res := by
  unfold hb_putI at hv
  split at hv
  · next h9 =>
    obtain ⟨n, hq, hn⟩ := hb_isO_at h9
    cases hv
    refine hs_putV (σ' := hb_setI σ a k x) hd hk hq hn (by rw [ht]; rfl) (by rw [ht]; rfl) rfl (hb_wsI hq ?_) h hμ
    rw [hb_cellO]
    congr 2
    refine (hb_mapset hn ?_ ?_).symm
    · simp [hb_ty, ht, hb_tyc, hb_fv, hb_setI, hb_up_eq, upd, hb_tr]
    · intro j hj
      simp [hb_fv, hb_setI, hb_up_eq, upd, hj]
  · cases hv
theorem hs_putZ {a idx ci k : Nat} {x : Int32} (hd : decode μ.2.1 pc = .ok (.putfield idx, 3)) (hk : hb_lkP μ.1 idx ci k) (ht : hb_tyX ci k = .boolean) (hv : hb_putZ σ a ci k x = some σ') (h : hb_T G l z μ d rc rs (pc + 3) lv st σ' res) (hμ : μ.2.2.2.2.2 = false := by rfl) : hb_T G l z μ d rc rs pc lv (.int x :: .ref a :: st) σ res := by
  unfold hb_putZ at hv
  split at hv
  · next h9 =>
    simp only [Bool.and_eq_true, Bool.or_eq_true, beq_iff_eq] at h9
    obtain ⟨n, hq, hn⟩ := hb_isO_at h9.1
    cases hv
    refine hs_putV (σ' := hb_setI σ a k x) hd hk hq hn ?_ ?_ rfl (hb_wsI hq ?_) h hμ
    · rw [ht]
      show narrow .boolean (.int x) = .int x
      rcases h9.2 with h8 | h8 <;> (subst h8; decide)
    · rw [ht]
      show fits .boolean (.int x) = true
      rcases h9.2 with h8 | h8 <;> (subst h8; decide)
    · rw [hb_cellO]
      congr 2
      refine (hb_mapset hn ?_ ?_).symm
      · simp [hb_ty, ht, hb_tyc, hb_fv, hb_setI, hb_up_eq, upd, hb_tr]
      · intro j hj
        simp [hb_fv, hb_setI, hb_up_eq, upd, hj]
  · cases hv
theorem hs_putL {a idx ci k : Nat} {x : Int64} (hd : decode μ.2.1 pc = .ok (.putfield idx, 3)) (hk : hb_lkP μ.1 idx ci k) (ht : hb_tyX ci k = .long) (hv : hb_putL σ a ci k x = some σ') (h : hb_T G l z μ d rc rs (pc + 3) lv st σ' res) (hμ : μ.2.2.2.2.2 = false := by rfl) : hb_T G l z μ d rc rs pc lv (.long x :: .ref a :: st) σ res := by
  unfold hb_putL at hv
  split at hv
  · next h9 =>
    obtain ⟨n, hq, hn⟩ := hb_isO_at h9
    cases hv
    refine hs_putV (σ' := hb_setL σ a k x) hd hk hq hn (by rw [ht]; rfl) (by rw [ht]; rfl) rfl (hb_wsL hq ?_) h hμ
    rw [hb_cellO]
    congr 2
    refine (hb_mapset hn ?_ ?_).symm
    · simp [hb_ty, ht, hb_tyc, hb_fv, hb_setL, hb_up_eq, vp_updL, hb_tr]
    · intro j hj
      simp [hb_fv, hb_setL, hb_up_eq, vp_updL, hj]
  · cases hv
theorem hs_putR {a idx ci k b : Nat} (hd : decode μ.2.1 pc = .ok (.putfield idx, 3)) (hk : hb_lkP μ.1 idx ci k) (ht : hb_ty ci k = 2) (hv : hb_putR σ a ci k b = some σ') (h : hb_T G l z μ d rc rs (pc + 3) lv st σ' res) (hμ : μ.2.2.2.2.2 = false := by rfl) : hb_T G l z μ d rc rs pc lv (.ref b :: .ref a :: st) σ res := by
  unfold hb_putR at hv
  split at hv
  · next h9 =>
    obtain ⟨n, hq, hn⟩ := hb_isO_at h9
    cases hv
    have ht2 : (∃ nm, hb_tyX ci k = .object nm) ∨ ∃ t, hb_tyX ci k = .array t := by
      unfold hb_ty at ht
      cases h7 : hb_tyX ci k <;> rw [h7] at ht <;> first | exact Or.inl ⟨_, rfl⟩ | exact Or.inr ⟨_, rfl⟩ | cases ht
    refine hs_putV (σ' := hb_setR σ a k b) hd hk hq hn ?_ ?_ rfl (hb_wsR hq ?_) h hμ
    · rcases ht2 with ⟨nm, h7⟩ | ⟨t, h7⟩ <;> (rw [h7]; rfl)
    · rcases ht2 with ⟨nm, h7⟩ | ⟨t, h7⟩ <;> (rw [h7]; rfl)
    · rw [hb_cellO]
      congr 2
      refine (hb_mapset hn ?_ ?_).symm
      · rw [ht]
        simp [hb_fv, hb_setR, hb_up_eq, hb_tr, hb_rf, va_rf]
      · intro j hj
        simp [hb_fv, hb_setR, hb_up_eq, va_up, hj]
  · cases hv
/-! arrays -/
theorem hb_in {i : Int32} {n : Nat} (h : ¬ (i < 0 ∨ n ≤ i.toNatClampNeg)) : vp_in i n := h
theorem hs_iald {a : Nat} {i x : Int32} (hd : decode μ.2.1 pc = .ok (.iaload, 1)) (hv : hb_iald σ a i = some x) (h : hb_T G l z μ d rc rs (pc + 1) lv (.int x :: st) σ res) : hb_T G l z μ d rc rs pc lv (.int i :: .ref a :: st) σ res := by
  unfold hb_iald at hv
  split at hv
  · next n hq =>
    split at hv
    · cases hv
    · next h9 =>
      cases hv
      intro p e R s m args below meth c Q hC h1 h2 e1 e2 H locs cells slots ls hc hs hD hl
      exact va_iald hC.1 hC.2.1 hC.2.2.2.2.2.2.1 hD.1 a 0 (hb_ws_at (G := G) hq) rfl (hb_in h9) hd (h p e R s m args below meth c Q hC h1 h2 e1 e2 H locs cells slots ls hc hs hD hl)
  · cases hv
theorem hs_zald {a : Nat} {i x : Int32} (hd : decode μ.2.1 pc = .ok (.baload, 1)) (hv : hb_zald σ a i = some x) (h : hb_T G l z μ d rc rs (pc + 1) lv (.int x :: st) σ res) : hb_T G l z μ d rc rs pc lv (.int i :: .ref a :: st) σ res := by
  unfold hb_zald at hv
  split at hv
  · next n hq =>
    split at hv
    · cases hv
    · next h9 =>
      cases hv
      intro p e R s m args below meth c Q hC h1 h2 e1 e2 H locs cells slots ls hc hs hD hl
      exact va_zald hC.1 hC.2.1 hC.2.2.2.2.2.2.1 hD.1 a 2 (hb_ws_at (G := G) hq) rfl (hb_in h9) hd (h p e R s m args below meth c Q hC h1 h2 e1 e2 H locs cells slots ls hc hs hD hl)
  · cases hv
theorem hs_lald {a : Nat} {i : Int32} {x : Int64} (hd : decode μ.2.1 pc = .ok (.laload, 1)) (hv : hb_lald σ a i = some x) (h : hb_T G l z μ d rc rs (pc + 1) lv (.long x :: st) σ res) : hb_T G l z μ d rc rs pc lv (.int i :: .ref a :: st) σ res := by
  unfold hb_lald at hv
  split at hv
  · next n hq =>
    split at hv
    · cases hv
    · next h9 =>
      cases hv
      intro p e R s m args below meth c Q hC h1 h2 e1 e2 H locs cells slots ls hc hs hD hl
      exact va_lald hC.1 hC.2.1 hC.2.2.2.2.2.2.1 hD.1 a 1 (hb_ws_at (G := G) hq) rfl (hb_in h9) hd (h p e R s m args below meth c Q hC h1 h2 e1 e2 H locs cells slots ls hc hs hD hl)
  · cases hv
theorem hs_aald {a b : Nat} {i : Int32} (hd : decode μ.2.1 pc = .ok (.aaload, 1)) (hv : hb_aald σ a i = some b) (h : hb_T G l z μ d rc rs (pc + 1) lv (.ref b :: st) σ res) : hb_T G l z μ d rc rs pc lv (.int i :: .ref a :: st) σ res := by
  unfold hb_aald at hv
  split at hv
  · next n hq =>
    split at hv
    · cases hv
    · next h9 =>
      intro p e R s m args below meth c Q hC h1 h2 e1 e2 H locs cells slots ls hc hs hD hl
      refine va_aldq hC.1 hC.2.1 hC.2.2.2.2.2.2.1 hD.1 a 3 (hb_ws_at (G := G) hq) rfl (hb_in h9) hd ?_
      rw [hv]
      exact h p e R s m args below meth c Q hC h1 h2 e1 e2 H locs cells slots ls hc hs hD hl
  · cases hv
theorem hs_iast {a : Nat} {i x : Int32} (hd : decode μ.2.1 pc = .ok (.iastore, 1)) (hv : hb_iast σ a i x = some σ') (h : hb_T G l z μ d rc rs (pc + 1) lv st σ' res) : hb_T G l z μ d rc rs pc lv (.int x :: .int i :: .ref a :: st) σ res := by
  unfold hb_iast at hv
  split at hv
  · next n hq =>
    split at hv
    · cases hv
    · next h9 =>
      cases hv
      intro p e R s m args below meth c Q hC h1 h2 e1 e2 H locs cells slots ls hc hs hD hl
      refine va_iast hC.1 hC.2.1 hC.2.2.2.2.2.2.1 hD.1 (hb_ws_D G σ) hD.2.1 a 0 (hb_ws_at (G := G) hq) rfl (hb_in h9) hd (fun H1 locs1 hP1 _ hS1 => ?_)
      rw [hb_wsI (j := i.toNatClampNeg) (x := x) hq (by simp [hb_cell, hb_setI, hb_up_eq])] at hP1
      exact hb_stored h hC h1 h2 e1 e2 hc hs hD hl hq rfl hP1 hS1
  · cases hv
theorem hs_zast {a : Nat} {i x : Int32} (hd : decode μ.2.1 pc = .ok (.bastore, 1)) (hv : hb_zast σ a i x = some σ') (h : hb_T G l z μ d rc rs (pc + 1) lv st σ' res) : hb_T G l z μ d rc rs pc lv (.int x :: .int i :: .ref a :: st) σ res := by
  unfold hb_zast at hv
  split at hv
  · next n hq =>
    split at hv
    · cases hv
    · next h9 =>
      cases hv
      intro p e R s m args below meth c Q hC h1 h2 e1 e2 H locs cells slots ls hc hs hD hl
      refine va_zast hC.1 hC.2.1 hC.2.2.2.2.2.2.1 hD.1 (hb_ws_D G σ) hD.2.1 a 2 (hb_ws_at (G := G) hq) rfl (hb_in h9) hd (fun H1 locs1 hP1 _ hS1 => ?_)
      rw [hb_wsI (j := i.toNatClampNeg) (x := vp_nar .boolean x) hq (by simp [hb_cell, hb_setI, hb_up_eq])] at hP1
      exact hb_stored h hC h1 h2 e1 e2 hc hs hD hl hq rfl hP1 hS1
  · cases hv
theorem hs_last {a : Nat} {i : Int32} {x : Int64} (hd : decode μ.2.1 pc = .ok (.lastore, 1)) (hv : hb_last σ a i x = some σ') (h : hb_T G l z μ d rc rs (pc + 1) lv st σ' res) : hb_T G l z μ d rc rs pc lv (.long x :: .int i :: .ref a :: st) σ res := by
  unfold hb_last at hv
  split at hv
  · next n hq =>
    split at hv
    · cases hv
    · next h9 =>
      cases hv
      intro p e R s m args below meth c Q hC h1 h2 e1 e2 H locs cells slots ls hc hs hD hl
      refine va_last hC.1 hC.2.1 hC.2.2.2.2.2.2.1 hD.1 (hb_ws_D G σ) hD.2.1 a 1 (hb_ws_at (G := G) hq) rfl (hb_in h9) hd (fun H1 locs1 hP1 _ hS1 => ?_)
      rw [hb_wsL (j := i.toNatClampNeg) (x := x) hq (by simp [hb_cell, hb_setL, hb_up_eq])] at hP1
      exact hb_stored h hC h1 h2 e1 e2 hc hs hD hl hq rfl hP1 hS1
  · cases hv
theorem hs_aast {a b : Nat} {i : Int32} (hd : decode μ.2.1 pc = .ok (.aastore, 1)) (hv : hb_aast σ a i b = some σ') (h : hb_T G l z μ d rc rs (pc + 1) lv st σ' res) : hb_T G l z μ d rc rs pc lv (.ref b :: .int i :: .ref a :: st) σ res := by
  unfold hb_aast at hv
  split at hv
  · next n n2 hq hq2 =>
    split at hv
    · cases hv
    · next h9 =>
      cases hv
      intro p e R s m args below meth c Q hC h1 h2 e1 e2 H locs cells slots ls hc hs hD hl
      refine va_astq hC.1 hC.2.1 hC.2.2.2.2.2.2.1 hD.1 (hb_ws_D G σ) hD.2.1 a 3 b 4 (hb_ws_at (G := G) hq) (r := (RX4, TX4, 13)) rfl (hb_ws_at (G := G) hq2) rfl (hb_in h9) hd (fun H1 locs1 hP1 _ hS1 => ?_)
      rw [hb_wsR (j := i.toNatClampNeg) (y := b) hq ?_] at hP1
      · exact hb_stored h hC h1 h2 e1 e2 hc hs hD hl hq rfl hP1 hS1
      · simp only [hb_cell, hb_setR, hb_up_eq]
        congr 7
        funext j
        by_cases hj : j = i.toNatClampNeg
        · simp [va_up, hj, hb_rf]
        · simp [va_up, hj]
  · cases hv
theorem hs_alen {a : Nat} {x : Int32} (hd : decode μ.2.1 pc = .ok (.arraylength, 1)) (hv : hb_alen σ a = some x) (h : hb_T G l z μ d rc rs (pc + 1) lv (.int x :: st) σ res) : hb_T G l z μ d rc rs pc lv (.ref a :: st) σ res := by
  unfold hb_alen at hv
  split at hv
  · next n hq =>
    cases hv
    intro p e R s m args below meth c Q hC h1 h2 e1 e2 H locs cells slots ls hc hs hD hl
    exact va_alen hC.1 hC.2.1 hC.2.2.2.2.2.2.1 hD.1 a 0 (hb_ws_at (G := G) hq) rfl rfl hd (h p e R s m args below meth c Q hC h1 h2 e1 e2 H locs cells slots ls hc hs hD hl)
  · next n hq =>
    cases hv
    intro p e R s m args below meth c Q hC h1 h2 e1 e2 H locs cells slots ls hc hs hD hl
    exact va_alen hC.1 hC.2.1 hC.2.2.2.2.2.2.1 hD.1 a 1 (hb_ws_at (G := G) hq) rfl rfl hd (h p e R s m args below meth c Q hC h1 h2 e1 e2 H locs cells slots ls hc hs hD hl)
  · cases hv
end HSP
