/-! new cells (while the world is counted), Object's constructor, arraycopy, switches -/
def hb_tyok (ci N : Nat) : Bool := (List.range N).all (fun k => match hb_tyX ci k with | .float => false | .double => false | _ => true)
section HSN
variable {G : hb_G} {l : Launch} {z : Bool} {μ μ' : hb_Y} {d d' mc ms rc rs pc pc' : Nat} {lv lv' : List (Nat × Value)} {st st' : List Value} {σ σ' σ1 : hb_M} {res res' : hb_R}
theorem hb_new_ws (κ n : Nat) {e : va_E} (he : hb_cell G (hb_new σ κ n) σ.1.length (κ, n) = e) : hb_ws G σ ++ [(hb_base G + σ.1.length, e)] = hb_ws G (hb_new σ κ n) :=
  hb_ws_app (q := (κ, n)) rfl he (fun b hb q => hb_cell_same (σ := σ) (σ' := hb_new σ κ n) (by simp [hb_new, hb_up_ne hb]) (by simp [hb_new, hb_up_ne hb]) (by simp [hb_new, hb_up_ne hb]) q)
/-- behind the making of a cell -/
theorem hb_made {p : Program} {e : Env} {R : Room} {s : State} {m : MethodId} {args : Array Value} {below : List Frame} {meth : Method} {c : Code} {Q : State → Prop} {H H1 : Heap} {locs : List Loc} {cells slots n k κ : Nat} {ls : Array Slot} {E : va_E} (h : hb_T G l false μ d rc rs pc lv (.ref σ.1.length :: st) (hb_new σ κ n) res) (hC : hb_C G μ p s m args meth c) (h1 : d + 8 ≤ R.frames) (h2 : 100 * d + 200 ≤ R.locals) (e1 : hb_E1 G l μ false res p e R s m args below meth c Q) (e2 : hb_E2 G l false res p e R s m args below meth c Q)
    (hc : cells + (1 + rc) ≤ R.cells) (hs : slots + (k + rs) ≤ R.slots) (hD : hb_D G false σ s H locs cells (1 + rc) R) (hl : lv_has ls μ.2.2.1 (lv.map (hb_tl G))) (he : hb_cell G (hb_new σ κ n) σ.1.length (κ, n) = E) (z1 : H1.size = H.size + 1) (o1 : ∀ q : Nat, q < H.size → H1[q]? = H[q]?) (hat : va_at (G.1, G.2.1) vwCl (hb_base G + σ.1.length, E) H1) : W p l e R s m args below meth c H1 locs (cells + 1) (slots + k) Q (F0 m pc ls (.ref H.size :: st.map (hb_tr G))) := by
  obtain ⟨k1, k2, k3⟩ := hD.2.2 rfl
  have hk : ∀ (k : Nat) (x : Nat × va_E), (hb_ws G σ)[k]? = some x → H1[x.1]? = H[x.1]? := fun k x hx => o1 x.1 ((hD.1 k x hx).lt)
  have hP1 : va_P (G.1, G.2.1) vwCl (hb_ws G (hb_new σ κ n)) H1 := by
    rw [← hb_new_ws κ n he]
    refine (hD.1.kept hk).app (fun k x hx => ?_)
    have hz : k < 1 := (List.getElem?_eq_some_iff.mp hx).1
    rw [show k = 0 by omega] at hx
    cases hx
    exact hat
  have hS1 : va_S (hb_A G) s.heap H1 locs := ⟨Nat.le_trans hD.2.1.1 (by omega), fun x h1 h2 => (o1 x (Nat.lt_of_lt_of_le h1 hD.2.1.1)).trans (hD.2.1.2.1 x h1 h2), hD.2.1.2.2⟩
  have hgo := h p e R s m args below meth c Q hC h1 h2 e1 e2 H1 locs (cells + 1) (slots + k) ls (by omega) (by omega) ⟨hP1, hS1, fun _ => ⟨by rw [z1, k1]; simp [hb_new]; omega, by omega, by omega⟩⟩ hl
  have hst : (Value.ref σ.1.length :: st).map (hb_tr G) = .ref H.size :: st.map (hb_tr G) := by rw [k1]; rfl
  rw [hst] at hgo
  exact hgo
theorem hs_newO {idx ci N b : Nat} {C : String} {T : u_T} (hd : decode μ.2.1 pc = .ok (.new idx, 3)) (hcl : vwCl[ci]? = some (C, T, N)) (hty9 : hb_tyok ci N = true) (hk : Cond.classLink μ.1.cls idx C ∈ hb_wl) (hi : Cond.instantiable C N ∈ hb_wl) (hini : Cond.initialized C ∈ hb_wl) (hv : hb_newO σ ci N = some (b, σ')) (h : hb_T G l false μ d rc rs (pc + 3) lv (.ref b :: st) σ' res) : hb_T G l false μ d (1 + rc) (N + rs) pc lv st σ res := by
  cases hv
  intro p e R s m args below meth c Q hC h1 h2 e1 e2 H locs cells slots ls hc hs hD hl
  have hts := hC.2.2.2.2.1
  have hKn := hC.2.2.2.2.2.2.1.1 ci _ hcl
  obtain ⟨hin, hty, hnm⟩ := hb_cl hcl
  obtain ⟨k1, k2, k3⟩ := hD.2.2 rfl
  refine W.newcK hC.1 hC.2.1 hC.2.2.2.1 (hts _ hk) (hts _ hi) (hts _ hini) rfl hd (by omega) (by omega) hKn.2.1 rfl fun H1 kC hkC f1 z1 o1 => ?_
  refine hb_made h hC h1 h2 e1 e2 hc hs hD hl rfl z1 o1 ?_
  rw [hb_cellO, ← k1]
  refine ⟨_, hcl, (u_born (hb_tyX ci) hts hin hKn hkC f1 hty).to (fun j hj => ?_)⟩
  have hj : j < N := hj
  have h8 := List.all_eq_true.mp hty9 j (List.mem_range.mpr hj)
  unfold vp_V
  rw [List.getD_eq_getElem?_getD, List.getElem?_map, List.getElem?_range hj]
  simp only [Option.map_some, Option.getD_some, hb_fv, hb_ty, hb_new, hb_up_eq]
  cases h9 : hb_tyX ci j <;> rw [h9] at h8 <;> first | rfl | cases h8
theorem hs_newI {n : Int32} {b : Nat} (hd : decode μ.2.1 pc = .ok (.newarray .int, 2)) (hw : Cond.arrayClass .int ∈ hb_wl) (hv : hb_newA σ 0 n = some (b, σ')) {k : Nat} (hk : n.toNatClampNeg = k) (h : hb_T G l false μ d rc rs (pc + 2) lv (.ref b :: st) σ' res) : hb_T G l false μ d (1 + rc) (k + rs) pc lv (.int n :: st) σ res := by
  unfold hb_newA at hv
  split at hv
  · cases hv
  next h9 =>
  cases hv
  intro p e R s m args below meth c Q hC h1 h2 e1 e2 H locs cells slots ls hc hs hD hl
  obtain ⟨k1, k2, k3⟩ := hD.2.2 rfl
  refine va_newaK hC.1 hC.2.1 (atype := .int) (hC.2.2.2.2.1 _ hw) rfl hd rfl (fun h => h9 (Or.inl h)) hk (by show k * 4 ≤ _; omega) (by omega) (by omega) rfl fun H1 cA f1 z1 o1 hAr hNm => ?_
  have hcA : cA = G.2.2.1 0 := Option.some.inj (hNm.symm.trans (hC.2.2.2.2.2.2.1.2 0 _ rfl).2)
  subst hk
  refine hb_made h hC h1 h2 e1 e2 hc hs hD hl rfl z1 o1 ?_
  show H1[hb_base G + σ.1.length]? = some (vp_cell _ _)
  rw [← k1, f1, hcA]
  simp only [hb_new, hb_up_eq]
  rfl
theorem hs_newL {n : Int32} {b : Nat} (hd : decode μ.2.1 pc = .ok (.newarray .long, 2)) (hw : Cond.arrayClass .long ∈ hb_wl) (hv : hb_newA σ 1 n = some (b, σ')) {k : Nat} (hk : n.toNatClampNeg = k) (h : hb_T G l false μ d rc rs (pc + 2) lv (.ref b :: st) σ' res) : hb_T G l false μ d (1 + rc) (k + rs) pc lv (.int n :: st) σ res := by
  unfold hb_newA at hv
  split at hv
  · cases hv
  next h9 =>
  cases hv
  intro p e R s m args below meth c Q hC h1 h2 e1 e2 H locs cells slots ls hc hs hD hl
  obtain ⟨k1, k2, k3⟩ := hD.2.2 rfl
  refine va_newaK hC.1 hC.2.1 (atype := .long) (hC.2.2.2.2.1 _ hw) rfl hd rfl (fun h => h9 (Or.inl h)) hk (by show k * 8 ≤ _; omega) (by omega) (by omega) rfl fun H1 cA f1 z1 o1 hAr hNm => ?_
  have hcA : cA = G.2.2.1 1 := Option.some.inj (hNm.symm.trans (hC.2.2.2.2.2.2.1.2 1 _ rfl).2)
  subst hk
  refine hb_made h hC h1 h2 e1 e2 hc hs hD hl rfl z1 o1 ?_
  show H1[hb_base G + σ.1.length]? = some (vp_cell _ _)
  rw [← k1, f1, hcA]
  simp only [hb_new, hb_up_eq]
  rfl
theorem hs_newZ {n : Int32} {b : Nat} (hd : decode μ.2.1 pc = .ok (.newarray .boolean, 2)) (hw : Cond.arrayClass .boolean ∈ hb_wl) (hv : hb_newA σ 2 n = some (b, σ')) {k : Nat} (hk : n.toNatClampNeg = k) (h : hb_T G l false μ d rc rs (pc + 2) lv (.ref b :: st) σ' res) : hb_T G l false μ d (1 + rc) (k + rs) pc lv (.int n :: st) σ res := by
  unfold hb_newA at hv
  split at hv
  · cases hv
  next h9 =>
  cases hv
  intro p e R s m args below meth c Q hC h1 h2 e1 e2 H locs cells slots ls hc hs hD hl
  obtain ⟨k1, k2, k3⟩ := hD.2.2 rfl
  refine va_newaK hC.1 hC.2.1 (atype := .boolean) (hC.2.2.2.2.1 _ hw) rfl hd rfl (fun h => h9 (Or.inl h)) hk (by show k * 1 ≤ _; omega) (by omega) (by omega) rfl fun H1 cA f1 z1 o1 hAr hNm => ?_
  have hcA : cA = G.2.2.1 2 := Option.some.inj (hNm.symm.trans (hC.2.2.2.2.2.2.1.2 2 _ rfl).2)
  subst hk
  refine hb_made h hC h1 h2 e1 e2 hc hs hD hl rfl z1 o1 ?_
  show H1[hb_base G + σ.1.length]? = some (vp_cell _ _)
  rw [← k1, f1, hcA]
  simp only [hb_new, hb_up_eq]
  rfl
theorem hs_newH {n : Int32} {idx b : Nat} (hd : decode μ.2.1 pc = .ok (.anewarray idx, 3)) (hw : Cond.classLink μ.1.cls idx RX4 ∈ hb_wl) (hv : hb_newA σ 3 n = some (b, σ')) {k : Nat} (hk : n.toNatClampNeg = k) (h : hb_T G l false μ d rc rs (pc + 3) lv (.ref b :: st) σ' res) : hb_T G l false μ d (1 + rc) (k + rs) pc lv (.int n :: st) σ res := by
  unfold hb_newA at hv
  split at hv
  · cases hv
  next h9 =>
  cases hv
  intro p e R s m args below meth c Q hC h1 h2 e1 e2 H locs cells slots ls hc hs hD hl
  obtain ⟨k1, k2, k3⟩ := hD.2.2 rfl
  subst hk
  refine W.anew hC.1 hC.2.1 hC.2.2.2.1 (hC.2.2.2.2.1 _ hw) (va_AO.use hC.2.2.2.2.2.2.2.2.2.2.2.1) rfl hd rfl (fun h => h9 (Or.inl h)) (by omega) (by omega) (by omega) fun cA kA comp f1 f2 f3 f4 => ?_
  have hcA : cA = G.2.2.1 3 := by
    obtain ⟨kA2, comp2, g1, g2, g3, g4⟩ := (hC.2.2.2.2.2.2.1.2 3 _ rfl).2
    exact Option.some.inj (f1.symm.trans g4)
  refine hb_made h hC h1 h2 e1 e2 hc hs hD hl rfl (by simp) (fun q hq => by rw [Array.getElem?_push, if_neg (Nat.ne_of_lt hq)]) ?_
  show _ = some (vp_cell _ _)
  have e9 : some ({ cls := cA, slots := Array.replicate n.toNatClampNeg .null, vm := .none } : Cell) = some (arrV cA n.toNatClampNeg (fun _ => .null)) := by rw [← arrV_new]
  rw [← k1, Array.getElem?_push_size, e9, hcA]
  simp only [hb_new, hb_up_eq]
  rfl
theorem hs_objInit {idx b : Nat} (hd : decode μ.2.1 pc = .ok (.invokespecial idx, 3)) (hk : Cond.methodLink μ.1.cls idx Lib.objectInit ∈ hb_wl) (hi : Cond.instanceMethod Lib.objectInit ∈ hb_wl) (hcd : Cond.code Lib.objectInit ⟨#[0xb1]⟩ 1 none ∈ hb_wl) (hcat : (st.map fun v => v.category).sum ≤ 8) (h : hb_T G l z μ d rc rs (pc + 3) lv st σ res) : hb_T G l z μ d rc rs pc lv (.ref b :: st) σ res := by
  intro p e R s m args below meth c Q hC h1 h2 e1 e2 H locs cells slots ls hc hs hD hl
  have hts := hC.2.2.2.2.1
  have h8 : 2 * (F0 m pc ls ((st.map (hb_tr G)))).monitorRoom + ((st.map (hb_tr G)).map fun v => v.category).sum ≤ 8 := lv_room (by rw [hb_cats]; exact hcat)
  have h8 : 2 * (F0 m pc ls (((Value.ref b :: st).map (hb_tr G)))).monitorRoom + ((st.map (hb_tr G)).map fun v => v.category).sum ≤ 8 := h8
  exact W.objInit hC.1 hC.2.1 hC.2.2.2.1 (hts _ hk) (hts _ hi) (hts _ hcd) rfl (by rw [hC.2.2.1]; exact hl.1) rfl hd (by omega) (by omega) (h p e R s m args below meth c Q hC h1 h2 e1 e2 H locs cells slots ls hc hs hD hl)
theorem hs_copy {idx a b : Nat} {sp dp n : Int32} (hd : decode μ.2.1 pc = .ok (.invokestatic idx, 3)) (hk : Cond.methodLink μ.1.cls idx arraycopyName ∈ hb_wl) (hw1 : Cond.native arraycopyName ∈ hb_wl) (hw2 : Cond.static arraycopyName ∈ hb_wl) (hw3 : Cond.initialized "java/lang/System" ∈ hb_wl) (hcat : (st.map fun v => v.category).sum ≤ 8) (hv : hb_copy σ a sp b dp n = some σ') (h : hb_T G l z μ d rc rs (pc + 3) lv st σ' res) : hb_T G l z μ d rc rs pc lv (.int n :: .int dp :: .ref b :: .int sp :: .ref a :: st) σ res := by
  unfold hb_copy at hv
  split at hv
  · next n0 n1 hq hq2 =>
    split at hv
    · cases hv
    · next h9 =>
      cases hv
      intro p e R s m args below meth c Q hC h1 h2 e1 e2 H locs cells slots ls hc hs hD hl
      have hts := hC.2.2.2.2.1
      have hnf : nativeFrameWords "java/lang/System" "arraycopy" 5 = 7 := by decide
      refine va_copyi (ty := .int) hC.1 hC.2.1 (by rw [hC.2.2.1, hl.1]) hC.2.2.2.1 (hts _ hk) (hts _ hw1) (hts _ hw2) (hts _ hw3) hC.2.2.2.2.2.2.1 hD.1 (hb_ws_D G σ) hD.2.1 a b 0 0 (hb_ws_at (G := G) hq) (hb_ws_at (G := G) hq2) rfl rfl rfl (fun h => h9 (Or.inl h)) (fun h => h9 (Or.inr (Or.inl h))) (fun h => h9 (Or.inr (Or.inr (Or.inl h)))) (by show _ ≤ n0; omega) (by show _ ≤ n1; omega) (fun i hi => rfl) (by omega) (by rw [hb_cats, hnf]; omega) hd (fun H1 locs1 hP1 _ hS1 => ?_)
      rw [hb_ws_set (σ' := (σ.1, va_up σ.2.1 b (va_cpy (σ.2.1 a) (σ.2.1 b) sp.toNatClampNeg dp.toNatClampNeg n.toNatClampNeg), σ.2.2)) hq2 rfl (by simp [hb_cell, hb_up_eq]) (fun b2 hb q => hb_cell_same (σ := σ) (σ' := (σ.1, va_up σ.2.1 b (va_cpy (σ.2.1 a) (σ.2.1 b) sp.toNatClampNeg dp.toNatClampNeg n.toNatClampNeg), σ.2.2)) (by simp [hb_up_ne hb]) rfl rfl q)] at hP1
      exact hb_stored h hC h1 h2 e1 e2 hc hs hD hl hq2 rfl hP1 hS1
  · cases hv
theorem hs_tblC {dflt lo hi off : Int} {offs : Array Int} {len tgt : Nat} {x : Int32} (k : Int32) (hd : decode μ.2.1 pc = .ok (.tableswitch dflt lo hi offs, len)) (hx : x = k) (h1 : ¬ k.toInt < lo) (h2 : ¬ hi < k.toInt) (ho : offs[(k.toInt - lo).toNat]? = some off) (ht : (pc : Int) + off = (tgt : Int)) (h : hb_T G l z μ d rc rs tgt lv st σ res) : hb_T G l z μ d rc rs pc lv (.int x :: st) σ res := by
  subst hx
  exact hb_lift (fun p e R s m args below meth c Q H locs cells slots ls hC hl k => lv_tableIn hC.1 hC.2.1 hd h1 h2 ho ht k) h
theorem hs_tblD {dflt lo hi : Int} {offs : Array Int} {len tgt : Nat} {x : Int32} (cs : List Int32) (hd : decode μ.2.1 pc = .ok (.tableswitch dflt lo hi offs, len)) (hx : ∀ k ∈ cs, ¬ x = k) (hsz : (offs.size : Int) = hi - lo + 1) (hcov : ∀ i, i < offs.size → offs[i]? = some dflt ∨ ∃ k ∈ cs, k.toInt = lo + (i : Int)) (ht : (pc : Int) + dflt = (tgt : Int)) (h : hb_T G l z μ d rc rs tgt lv st σ res) : hb_T G l z μ d rc rs pc lv (.int x :: st) σ res := by
  refine hb_lift (fun p e R s m args below meth c Q H locs cells slots ls hC hl k => ?_) h
  by_cases h1 : x.toInt < lo
  · exact lv_tableOut hC.1 hC.2.1 hd (Or.inl h1) ht k
  by_cases h2 : hi < x.toInt
  · exact lv_tableOut hC.1 hC.2.1 hd (Or.inr h2) ht k
  rcases hcov (x.toInt - lo).toNat (by omega) with h3 | ⟨k9, hk9, h3⟩
  · exact lv_tableIn hC.1 hC.2.1 hd h1 h2 h3 ht k
  · exact absurd (Int32.toInt_inj.mp (by omega)) (hx k9 hk9)
end HSN
section HSW
variable {G : hb_G} {l : Launch} {z : Bool} {μ μ' : hb_Y} {d d' mc ms rc rs pc pc' : Nat} {lv lv' : List (Nat × Value)} {st st' : List Value} {σ σ' σ1 : hb_M} {res res' : hb_R}
theorem hs_lkpC {dflt off : Int} {ps : Array (Int × Int)} {len tgt : Nat} {x : Int32} (k : Int32) (hd : decode μ.2.1 pc = .ok (.lookupswitch dflt ps, len)) (hp : (ps.toList.zip (ps.toList.drop 1)).all (fun (a, next) => a.1 < next.1) = true) (hx : x = k) (ho : Op.lookupswitch.offset ps.toList dflt k.toInt = off) (ht : (pc : Int) + off = (tgt : Int)) (h : hb_T G l z μ d rc rs tgt lv st σ res) : hb_T G l z μ d rc rs pc lv (.int x :: st) σ res := by
  subst hx
  exact hb_lift (fun p e R s m args below meth c Q H locs cells slots ls hC hl k => lv_lookup hC.1 hC.2.1 hd hp ho ht k) h
theorem hs_lkpD {dflt : Int} {ps : Array (Int × Int)} {len tgt : Nat} {x : Int32} (cs : List Int32) (hd : decode μ.2.1 pc = .ok (.lookupswitch dflt ps, len)) (hp : (ps.toList.zip (ps.toList.drop 1)).all (fun (a, next) => a.1 < next.1) = true) (hx : ∀ k ∈ cs, ¬ x = k) (hcov : ∀ q ∈ ps.toList, ∃ k ∈ cs, k.toInt = q.1) (ht : (pc : Int) + dflt = (tgt : Int)) (h : hb_T G l z μ d rc rs tgt lv st σ res) : hb_T G l z μ d rc rs pc lv (.int x :: st) σ res := by
  refine hb_lift (fun p e R s m args below meth c Q H locs cells slots ls hC hl k => lv_lookup hC.1 hC.2.1 hd hp (Op.lookupswitch.offset_none ?_) ht k) h
  rw [List.find?_eq_none]
  intro q hq h9
  obtain ⟨k9, hk9, h3⟩ := hcov q hq
  have h8 : q.1 = x.toInt := by simpa using h9
  exact hx k9 hk9 (Int32.toInt_inj.mp (by rw [← h8, h3]))
end HSW
