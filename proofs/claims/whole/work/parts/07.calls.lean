/-! ends, contracts, calls, new cells -/
def hb_rm (d mc ms : Nat) : Room := { frames := d + 8, cells := mc, slots := ms, locals := 100 * d + 200 }
def hb_St (G : hb_G) (z : Bool) (σ : hb_M) (U : State) : Prop := va_P (G.1, G.2.1) vwCl (hb_ws G σ) U.heap ∧ (z = false → U.heap.size = hb_base G + σ.1.length)
def hb_Pre (G : hb_G) (z : Bool) (As : List Value) (σ : hb_M) : Array Value → State → Prop := va_Pc (As.map (hb_tr G)) (fun U => hb_St G z σ U ∧ hb_K G U)
def hb_Q (G : hb_G) (z : Bool) (mc : Nat) (res : hb_R) : Array Value → State → Outcome → State → Prop := fun _ st o t => (∃ v, res.1 = .inl v ∧ o = .returned (v.map (hb_tr G))) ∧ hb_St G z res.2 t ∧ va_F (hb_A G) st t ∧ (z = false → t.heap.size = st.heap.size + mc)
def hb_X (G : hb_G) (z : Bool) (res : hb_R) : String → State → State → Prop := fun E st t => res.1 = .inr E ∧ hb_St G z res.2 t ∧ va_F (hb_A G) st t ∧ z = true
def hb_Call (G : hb_G) (l : Launch) (z : Bool) (d mc ms : Nat) (μ : hb_Y) (As : List Value) (σ : hb_M) (res : hb_R) : Prop :=
  vx_Met l μ.1 (Cond.code μ.1 μ.2.1 μ.2.2.1 μ.2.2.2.1 :: hb_wl) (hb_rm d mc ms) (hb_Pre G z As σ) (hb_Q G z mc res) (hb_X G z res) mc ms (hb_A G)
theorem hb_blind {G : hb_G} {z : Bool} {As : List Value} {σ : hb_M} : FrameBlind (hb_Pre G z As σ) := by
  intro a U g mk h
  obtain ⟨h1, h2, h3⟩ := h
  exact ⟨h1, h2, hb_K_same (U := U.calling g mk a) h3 rfl rfl⟩
theorem hb_lvargs (G : hb_G) (As : List Value) : ∀ i, lv_args i (As.map (hb_tr G)) = (lv_args i As).map (hb_tl G) := by
  induction As with
  | nil => intro i; rfl
  | cons v vs ih =>
    intro i
    simp only [List.map_cons, lv_args, hb_tr_cat]
    rw [ih]
    rfl
theorem hb_lgsl (G : hb_G) (As : List Value) : (lg_sl (As.map (hb_tr G))).length = (lg_sl As).length := by
  induction As with
  | nil => rfl
  | cons v vs ih =>
    have h1 : ∀ (w : Value) (ws : List Value), (lg_sl (w :: ws)).length = (lg_sl [w]).length + (lg_sl ws).length := by
      intro w ws
      simp [lg_sl, List.flatMap_cons]
    rw [List.map_cons, h1, h1 v, ih]
    congr 1
    cases v <;> rfl
section HSC
variable {G : hb_G} {l : Launch} {z : Bool} {μ μ' : hb_Y} {d d' mc ms rc rs pc pc' : Nat} {lv lv' : List (Nat × Value)} {st st' : List Value} {σ σ' σ1 : hb_M} {res res' : hb_R}
theorem hs_ireturn {v : Int32} {ty : FieldType} (hd : decode μ.2.1 pc = .ok (.ireturn, 1)) (hr : μ.2.2.2.1 = some ty) (hn : narrow ty (.int v) = .int v) (hz : z = false → rc = 0) : hb_T G l z μ d rc rs pc lv [.int v] σ (.inl (some (.int v)), σ) := by
  intro p e R s m args below meth c Q hC h1 h2 e1 e2 H locs cells slots ls hc hs hD hl
  exact e1 _ rfl H locs cells slots pc ls (by omega) (by omega) ⟨hD.1, hD.2.1, fun hf => by have hf := (Bool.or_eq_false_iff.mp hf).2; obtain ⟨k1, k2, k3⟩ := hD.2.2 hf; have := hz hf; exact ⟨k1, k2, by omega⟩⟩ ⟨hd, ty, hr, hn⟩
theorem hs_lreturn {v : Int64} (hd : decode μ.2.1 pc = .ok (.lreturn, 1)) (hr : μ.2.2.2.1 = some .long) (hz : z = false → rc = 0) : hb_T G l z μ d rc rs pc lv [.long v] σ (.inl (some (.long v)), σ) := by
  intro p e R s m args below meth c Q hC h1 h2 e1 e2 H locs cells slots ls hc hs hD hl
  exact e1 _ rfl H locs cells slots pc ls (by omega) (by omega) ⟨hD.1, hD.2.1, fun hf => by have hf := (Bool.or_eq_false_iff.mp hf).2; obtain ⟨k1, k2, k3⟩ := hD.2.2 hf; have := hz hf; exact ⟨k1, k2, by omega⟩⟩ ⟨hd, hr⟩
theorem hs_areturn {v : Nat} {nm : String} (hd : decode μ.2.1 pc = .ok (.areturn, 1)) (hr : μ.2.2.2.1 = some (.object nm)) (hz : z = false → rc = 0) : hb_T G l z μ d rc rs pc lv [.ref v] σ (.inl (some (.ref v)), σ) := by
  intro p e R s m args below meth c Q hC h1 h2 e1 e2 H locs cells slots ls hc hs hD hl
  exact e1 _ rfl H locs cells slots pc ls (by omega) (by omega) ⟨hD.1, hD.2.1, fun hf => by have hf := (Bool.or_eq_false_iff.mp hf).2; obtain ⟨k1, k2, k3⟩ := hD.2.2 hf; have := hz hf; exact ⟨k1, k2, by omega⟩⟩ ⟨hd, nm, hr⟩
theorem hs_return (hd : decode μ.2.1 pc = .ok (.return_, 1)) (hr : μ.2.2.2.1 = none) (hz : z = false → rc = 0) : hb_T G l z μ d rc rs pc lv [] σ (.inl none, σ) := by
  intro p e R s m args below meth c Q hC h1 h2 e1 e2 H locs cells slots ls hc hs hD hl
  exact e1 _ rfl H locs cells slots pc ls (by omega) (by omega) ⟨hD.1, hD.2.1, fun hf => by have hf := (Bool.or_eq_false_iff.mp hf).2; obtain ⟨k1, k2, k3⟩ := hD.2.2 hf; have := hz hf; exact ⟨k1, k2, by omega⟩⟩ ⟨hd, hr⟩
/-- as vx_ofW, for a method that no native entry takes the place of -/
theorem hb_ofWF {y : MethodName} {ws ws' : List Cond} {rm : Room} {Pc : Array Value → State → Prop} {Qc : Array Value → State → Outcome → State → Prop} {XC : String → State → State → Prop} {free : Addr → Prop} {cc : ByteArray} {maxL : Nat} {ret : Option FieldType}
    (hy : plainFor y = true) (hw : ws = Cond.code y cc maxL ret :: ws')
    (body : ∀ p e s m args below meth c s₁, BodyLoose p l y (headSpec ws rm) cc maxL ret e s m args below meth c s₁ → c.maxLocals = maxL → (∀ x ∈ c.exceptionTable.toList, False) → Pc args s →
      W p l e (headSpec ws rm).room s m args below meth c s.heap [] 0 0 (vx_MQ below Qc XC args s mc ms free) (entryFrame m args maxL)) : vx_Met l y ws rm Pc Qc XC mc ms free := by
  refine MetFree.of_bodySF (code := cc) (maxLocals := maxL) (ret := ret) hy ?_ ?_
  · intro args s m h hn
    obtain ⟨meth, c, h1, h2, h3, h4, h5, h6, -, -⟩ := Cond.code_spec hn (atoms_spec (ws := ws) h _ (by rw [hw]; exact List.mem_cons_self))
    exact ⟨meth, c, h1, h2, h3, h4, h5, h6⟩
  · intro p e s m args below meth c s₁ B hml hP _
    have hh0 : s₁.heap = s.heap := by rw [B.state]; rfl
    have ht : ∀ x ∈ c.exceptionTable.toList, False := by
      obtain ⟨meth9, c9, h1, h2, -, -, -, -, h7, -⟩ := Cond.code_spec B.named (atoms_spec (ws := ws) B.pre _ (by rw [hw]; exact List.mem_cons_self))
      cases Option.some.inj (h1.symm.trans B.method)
      cases Option.some.inj (h2.symm.trans (Stand.of_body B).code)
      intro x hx
      rw [Array.isEmpty_iff.mp h7] at hx
      cases hx
    obtain ⟨t, a1, o, b1, b2, b3⟩ := body p e s m args below meth c s₁ B hml ht hP s₁ hh0 (Stand.of_body B)
    exact ⟨t, o, a1, b1, b2, b3⟩
/-- a method's contract, from its first instruction -/
theorem hb_metF {As : List Value} (hy : plainFor μ.1 = true) (hAs : (lg_sl As).length ≤ μ.2.2.1) (hT : hb_T G l z μ d mc ms 0 (lv_args 0 As) [] σ res) (h0 : μ.2.2.2.2 = ([], false) := by rfl) : hb_Call G l z d mc ms μ As σ res := by
  have hfl : (μ.2.2.2.2.2 || z) = z := by rw [h0]; rfl
  refine hb_ofWF (cc := μ.2.1) (maxL := μ.2.2.1) (ret := μ.2.2.2.1) hy rfl ?_
  intro p e s m args below meth c s₁ B hml hx hv
  obtain ⟨rfl, hSt, hK⟩ := hv
  have hts := atoms_spec (ws := Cond.code μ.1 μ.2.1 μ.2.2.1 μ.2.2.2.1 :: hb_wl) B.pre
  have hlocks := B.notSynchronized
  have hr := B.returns
  rw [lg_entry_eq]
  refine hT p e _ s m _ below meth c _ ⟨B.exec, B.bytes, hml, findClass_of_methodNamed B.named, fun w hw => hts w (List.mem_cons_of_mem _ hw), fun _ => ⟨(name_of_methodNamed B.named B.method).1, by rw [h0]; exact List.eq_nil_iff_forall_not_mem.mpr hx⟩, hK⟩ (Nat.le_refl _) (Nat.le_refl _) ?_ ?_ s.heap [] 0 0 _ (Nat.le_of_eq (Nat.zero_add _)) (Nat.le_of_eq (Nat.zero_add _)) ⟨hSt.1, va_S.rf, fun hf => ⟨hSt.2 hf, rfl, Nat.zero_add _⟩⟩ (by
    rw [← hb_lvargs]
    exact lv_entry _ (by rw [hb_lgsl]; exact hAs))
  · intro v hv H locs cells slots pc ls hc hs hD hret
    rw [hfl] at hD
    refine vx_ret (W.widen (k := mc) (n := ms) hc hs ?_)
    have hq : ∀ t : State, t.heap = H → hb_Q G z mc res (As.map (hb_tr G)).toArray s (.returned (v.map (hb_tr G))) t := by
      intro t ht
      refine ⟨⟨v, hv, rfl⟩, ⟨by rw [ht]; exact hD.1, fun hf => by rw [ht]; exact (hD.2.2 hf).1⟩, hD.2.1.F ht, fun hf => ?_⟩
      obtain ⟨k1, k2, k3⟩ := hD.2.2 hf
      rw [ht, ← k2]
      have k4 : cells + 0 = mc := k3
      omega
    match v, hret, hq with
    | none, hret, hq =>
      exact W.vret B.exec B.bytes (by rw [hr]; exact hret.2) (fun t ht _ => hq t ht) hD.2.1.2.2 hret.1 hlocks
    | some (.int x), hret, hq =>
      obtain ⟨hd, ty, h1, h2⟩ := hret
      exact W.zret B.exec B.bytes (by rw [hr]; exact h1) h2 (fun t ht _ => hq t ht) hD.2.1.2.2 hd hlocks
    | some (.long x), hret, hq =>
      exact W.lret B.exec B.bytes (by rw [hr]; exact hret.2) (fun t ht _ => hq t ht) hD.2.1.2.2 hret.1 hlocks
    | some (.ref x), hret, hq =>
      obtain ⟨hd, nm, h1⟩ := hret
      exact W.aret B.exec B.bytes (by rw [hr]; exact h1) (Or.inl ⟨nm, rfl⟩) (Or.inr ⟨_, rfl⟩) (fun t ht _ => hq t ht) hD.2.1.2.2 hd hlocks
  · intro E hE H locs cells slots pc ls rest q ce hc hs hP hS hfz hq hv hcl
    exact vx_out (fun x hx9 => (hx x hx9).elim) hlocks hq hv hcl (fun t ht _ => ⟨hE, ⟨by rw [ht]; exact hP, fun hf => by rw [hfz] at hf; cases hf⟩, hS.F ht, hfz⟩) hS.2.2 hc hs
theorem hb_met {As : List Value} (hy : plainName μ.1.cls = true) (hAs : (lg_sl As).length ≤ μ.2.2.1) (hT : hb_T G l z μ d mc ms 0 (lv_args 0 As) [] σ res) (h0 : μ.2.2.2.2 = ([], false) := by rfl) : hb_Call G l z d mc ms μ As σ res := hb_metF (plainFor_of_name hy) hAs hT h0
/-- behind a call -/
theorem hb_after {p : Program} {e : Env} {R : Room} {s : State} {m : MethodId} {args : Array Value} {below : List Frame} {meth : Method} {c : Code} {Q : State → Prop} {H : Heap} {locs : List Loc} {cells slots : Nat} {ls : Array Slot} {rest st0 : List Value} {a : Array Value}
    (hr : vx_Run p l e R s m args below meth c H locs cells slots mc ms (F0 m pc ls st0) (rest.map (hb_tr G)) (hb_Q G z mc res' a) (hb_X G z res') (hb_A G)) (hC : hb_C G μ p s m args meth c) (h1 : d + 8 ≤ R.frames) (h2 : 100 * d + 200 ≤ R.locals) (e1 : hb_E1 G l μ z res p e R s m args below meth c Q) (e2 : hb_E2 G l z res p e R s m args below meth c Q)
    (hc : cells + (mc + rc) ≤ R.cells) (hs : slots + (ms + rs) ≤ R.slots) (hD : hb_D G z σ s H locs cells (mc + rc) R) (hl : lv_has ls μ.2.2.1 (lv.map (hb_tl G)))
    (hgo : match res'.1 with | .inl v => hb_T G l z μ d rc rs (pc + 3) lv (v.toList ++ rest) res'.2 res | .inr _ => res = res') : W p l e R s m args below meth c H locs cells slots Q (F0 m pc ls st0) := by
  intro T hT X
  rcases hr T hT X with ⟨v, st₀, t, T', L, h0, X', hL, k1, k2, ⟨⟨v0, hv0, hov⟩, hSt, hF, hsz⟩, stp⟩ | ⟨q, st₀, t, T', L, E, ce, h0, X', hL, k1, k2, ⟨hE, hSt, hF, hfr⟩, hce, hcv, hcl, stp⟩
  · cases hov
    rw [hv0] at hgo
    obtain ⟨j1, j2, j3⟩ := vx_keep h0 k1 hD.2.1 (fun q _ h => h) (fun q h => h) hL hF
    have hgo2 := hgo p e R s m args below meth c Q hC h1 h2 e1 e2 T'.heap (locs ++ L) (cells + mc) (slots + ms) ls (by omega) (by omega) ⟨by rw [k1]; exact hSt.1, j3, fun hf => by
      obtain ⟨i1, i2, i3⟩ := hD.2.2 hf
      have hz := hsz hf
      rw [h0] at hz
      refine ⟨by rw [k1]; exact hSt.2 hf, by rw [k1, hz]; omega, by omega⟩⟩ hl
    have hst : (v0.toList ++ rest).map (hb_tr G) = (v0.map (hb_tr G)).toList ++ rest.map (hb_tr G) := by cases v0 <;> simp
    rw [hst] at hgo2
    obtain ⟨t2, a1, b1⟩ := hgo2 T' rfl X'
    exact ⟨t2, stp t2 a1, b1⟩
  · rw [hE] at hgo
    have hgo : res = res' := hgo
    subst hgo
    obtain ⟨j1, j2, j3⟩ := vx_keep h0 k1 hD.2.1 (fun q _ h => h) (fun q h => h) hL hF
    obtain ⟨t2, a1, b1⟩ := e2 E hE T'.heap (locs ++ L) (cells + mc) (slots + ms) pc ls (rest.map (hb_tr G)) q ce (by omega) (by omega) (by rw [k1]; exact hSt.1) j3 hfr (by rw [k1]; exact hce) hcv hcl T' rfl X'
    exact ⟨t2, stp.trans a1, b1⟩
def hb_okM (μ : hb_Y) (n : Nat) : Prop := Cond.initialized μ.1.cls ∈ hb_wl ∧ Cond.code μ.1 μ.2.1 μ.2.2.1 μ.2.2.2.1 ∈ hb_wl ∧ (μ.1.cls ≠ "java/lang/invoke/MethodHandle" ∧ μ.1.cls ≠ "java/lang/invoke/VarHandle" ∧ (parseMethodDescriptor μ.1.desc).map (fun d => d.parameters.length) = some n) ∧ μ.2.2.1 ≤ 80
def hb_okV (μ : hb_Y) (n : Nat) : Prop := hb_okM μ n ∧ Cond.instanceMethod μ.1 ∈ hb_wl ∧ Cond.selects μ.1.cls μ.1 μ.1 ∈ hb_wl
def hb_okS (μ : hb_Y) (n : Nat) : Prop := hb_okM μ n ∧ Cond.static μ.1 ∈ hb_wl
def hb_okI (μ : hb_Y) (n : Nat) : Prop := hb_okM μ n ∧ μ.1.name = "<init>" ∧ Cond.instanceMethod μ.1 ∈ hb_wl ∧ μ.2.2.2.1 = none
theorem hb_goodIn {w : Cond} (h : w ∈ hb_wl) : GoodIn hb_wl (w :: hb_wl) := by
  intro x hx
  have hx : x ∈ hb_wl := by
    rcases List.mem_cons.mp hx with h1 | h1
    · rw [h1]; exact h
    · exact h1
  exact ⟨hx, good_of_word (hb_wl_good x hx)⟩
theorem hb_PreS {s : State} {H : Heap} {locs : List Loc} {cells rc : Nat} {R : Room} {As : List Value} (hK : hb_K G s) (hD : hb_D G z σ s H locs cells rc R) : PreS s H (hb_Pre G z As σ) (As.map (hb_tr G)) := by
  refine ⟨hb_blind, fun U hU hW => ⟨rfl, ⟨by rw [hU]; exact hD.1, fun hf => by rw [hU]; exact (hD.2.2 hf).1⟩, hb_K_go hK hD.2.1 hU hW⟩⟩
theorem hb_cats (l1 : List Value) : ((l1.map (hb_tr G)).map fun v => v.category) = l1.map fun v => v.category := by
  rw [List.map_map]
  exact List.map_congr_left (fun v _ => hb_tr_cat G v)
theorem hs_callV {idx n b ci nf : Nat} {As rest : List Value} (hd : decode μ.2.1 pc = .ok (.invokevirtual idx, 3)) (hk : Cond.methodLink μ.1.cls idx μ'.1 ∈ hb_wl) (ho : hb_okV μ' n) (hn : As.length = n) (hdd : d' + 1 ≤ d) (hst : st = As.reverse ++ .ref b :: rest) (hcat : (rest.map fun v => v.category).sum ≤ 8)
    (hcl : (vwCl[ci]?).map (fun q => q.1) = some μ'.1.cls) (hb : σ.1[b]? = some (ci + 4, nf)) (hM : hb_Call G l z d' mc ms μ' (.ref b :: As) σ res')
    (hgo : match res'.1 with | .inl v => hb_T G l z μ d rc rs (pc + 3) lv (v.toList ++ rest) res'.2 res | .inr _ => res = res') : hb_T G l z μ d (mc + rc) (ms + rs) pc lv st σ res := by
  intro p e R s m args below meth c Q hC h1 h2 e1 e2 H locs cells slots ls hc hs hD hl
  obtain ⟨⟨o1, o2, o3, o4⟩, o5, o6⟩ := ho
  have hts := hC.2.2.2.2.1
  obtain ⟨⟨C, T, N⟩, hq, hqe⟩ := Option.map_eq_some_iff.mp hcl
  have hqe : C = μ'.1.cls := hqe
  subst hqe
  have hP9 := hb_ws_at (G := G) hb
  rw [hb_cellO] at hP9
  refine hb_after (vx_runV (As := As.map (hb_tr G)) (b := hb_base G + b) (C := μ'.1.cls) ⟨hC.1, hC.2.1, hC.2.2.1, hC.2.2.2.1, hts⟩ hM ⟨callB_of n hts (hb_goodIn o2) rfl rfl rfl (hts _ o1) (hts _ hk) o3 ⟨by show d' + 8 + 1 ≤ _; omega, by show 8 + (μ'.2.2.1 + 11) + (100 * d' + 200) ≤ _; omega⟩, hts _ o5, hts _ o6⟩ ⟨(hb_PreS (As := .ref b :: As) hC.2.2.2.2.2.2 hD).1, va_recv hC.2.2.2.2.2.2.1 hD.1 hq hP9, (hb_PreS (As := .ref b :: As) hC.2.2.2.2.2.2 hD).2⟩ rfl (by rw [List.length_map]; exact hn) hl.1 (by rw [hst]; simp [hb_tr]) (lv_room (by rw [hb_cats]; exact hcat)) hd ⟨by omega, by omega⟩) hC h1 h2 e1 e2 hc hs hD hl hgo
theorem hs_callS {idx n : Nat} {As rest : List Value} (hd : decode μ.2.1 pc = .ok (.invokestatic idx, 3)) (hk : Cond.methodLink μ.1.cls idx μ'.1 ∈ hb_wl) (ho : hb_okS μ' n) (hn : As.length = n) (hdd : d' + 1 ≤ d) (hst : st = As.reverse ++ rest) (hcat : (rest.map fun v => v.category).sum ≤ 8)
    (hM : hb_Call G l z d' mc ms μ' As σ res')
    (hgo : match res'.1 with | .inl v => hb_T G l z μ d rc rs (pc + 3) lv (v.toList ++ rest) res'.2 res | .inr _ => res = res') : hb_T G l z μ d (mc + rc) (ms + rs) pc lv st σ res := by
  intro p e R s m args below meth c Q hC h1 h2 e1 e2 H locs cells slots ls hc hs hD hl
  obtain ⟨⟨o1, o2, o3, o4⟩, o5⟩ := ho
  have hts := hC.2.2.2.2.1
  refine hb_after (vx_runS (As := As.map (hb_tr G)) ⟨hC.1, hC.2.1, hC.2.2.1, hC.2.2.2.1, hts⟩ hM ⟨callB_of n hts (hb_goodIn o2) rfl rfl rfl (hts _ o1) (hts _ hk) o3 ⟨by show d' + 8 + 1 ≤ _; omega, by show 8 + (μ'.2.2.1 + 11) + (100 * d' + 200) ≤ _; omega⟩, hts _ o5⟩ (hb_PreS hC.2.2.2.2.2.2 hD) rfl (by rw [List.length_map]; exact hn) hl.1 (by rw [hst]; simp) (lv_room (by rw [hb_cats]; exact hcat)) hd ⟨by omega, by omega⟩) hC h1 h2 e1 e2 hc hs hD hl hgo
theorem hs_callSN {idx n : Nat} {As rest : List Value} (hd : decode μ.2.1 pc = .ok (.invokestatic idx, 3)) (hk : Cond.methodLinkNest μ.1.cls idx μ'.1 "HeapBrowser" ∈ hb_nw) (ho : hb_okS μ' n) (hn : As.length = n) (hdd : d' + 1 ≤ d) (hst : st = As.reverse ++ rest) (hcat : (rest.map fun v => v.category).sum ≤ 8)
    (hM : hb_Call G l z d' mc ms μ' As σ res')
    (hgo : match res'.1 with | .inl v => hb_T G l z μ d rc rs (pc + 3) lv (v.toList ++ rest) res'.2 res | .inr _ => res = res') : hb_T G l z μ d (mc + rc) (ms + rs) pc lv st σ res := by
  intro p e R s m args below meth c Q hC h1 h2 e1 e2 H locs cells slots ls hc hs hD hl
  obtain ⟨⟨o1, o2, o3, o4⟩, o5⟩ := ho
  have hts := hC.2.2.2.2.1
  refine hb_after (vx_runSN (As := As.map (hb_tr G)) ⟨hC.1, hC.2.1, hC.2.2.1, hC.2.2.2.1, hts⟩ hM ⟨va_cnB n hts (hb_goodIn o2) rfl rfl rfl (hC.2.2.2.2.2.2.2.1 _ hk) (hts _ o1) o3 ⟨by show d' + 8 + 1 ≤ _; omega, by show 8 + (μ'.2.2.1 + 11) + (100 * d' + 200) ≤ _; omega⟩, hts _ o5, trivial⟩ (hb_PreS hC.2.2.2.2.2.2 hD) rfl (by rw [List.length_map]; exact hn) hl.1 (by rw [hst]; simp) (lv_room (by rw [hb_cats]; exact hcat)) hd ⟨by omega, by omega⟩) hC h1 h2 e1 e2 hc hs hD hl hgo
theorem hs_callI {y9 : MethodName} {cc9 : ByteArray} {nL9 : Nat} {idx n b : Nat} {As rest : List Value} (hd : decode μ.2.1 pc = .ok (.invokespecial idx, 3)) (hk : Cond.methodLink μ.1.cls idx y9 ∈ hb_wl ∨ Cond.methodLinkNest μ.1.cls idx y9 "HeapBrowser" ∈ hb_nw) (ho : hb_okI (y9, cc9, nL9, none, [], false) n) (hn : As.length = n) (hdd : d' + 1 ≤ d) (hst : st = As.reverse ++ .ref b :: rest) (hcat : (rest.map fun v => v.category).sum ≤ 8)
    (hM : hb_Call G l z d' mc ms (y9, cc9, nL9, none, [], false) (.ref b :: As) σ res')
    (hgo : match res'.1 with | .inl v => hb_T G l z μ d rc rs (pc + 3) lv (v.toList ++ rest) res'.2 res | .inr _ => res = res') : hb_T G l z μ d (mc + rc) (ms + rs) pc lv st σ res := by
  intro p e R s m args below meth c Q hC h1 h2 e1 e2 H locs cells slots ls hc hs hD hl
  obtain ⟨⟨o1, o2, o3, o4⟩, o5, o6, -⟩ := ho
  have hts := hC.2.2.2.2.1
  have o4 : nL9 ≤ 80 := o4
  have hR : d' + 8 + 1 ≤ R.frames ∧ 8 + (nL9 + 11) + (100 * d' + 200) ≤ R.locals := ⟨by omega, by omega⟩
  rcases hk with hk | hk
  · refine hb_after (vx_runI (As := As.map (hb_tr G)) (b := hb_base G + b) ⟨hC.1, hC.2.1, hC.2.2.1, hC.2.2.2.1, hts⟩ hM ⟨callB_of n hts (hb_goodIn o2) rfl rfl rfl (hts _ o1) (hts _ hk) o3 hR, o5, hts _ o6⟩ (hb_PreS (As := .ref b :: As) hC.2.2.2.2.2.2 hD) rfl (by rw [List.length_map]; exact hn) hl.1 (by rw [hst]; simp [hb_tr]) (lv_room (by rw [hb_cats]; exact hcat)) hd ⟨by omega, by omega⟩) hC h1 h2 e1 e2 hc hs hD hl hgo
  · refine hb_after (vx_runIN (As := As.map (hb_tr G)) (b := hb_base G + b) ⟨hC.1, hC.2.1, hC.2.2.1, hC.2.2.2.1, hts⟩ hM ⟨va_cnB n hts (hb_goodIn o2) rfl rfl rfl (hC.2.2.2.2.2.2.2.1 _ hk) (hts _ o1) o3 hR, o5, hts _ o6⟩ (hb_PreS (As := .ref b :: As) hC.2.2.2.2.2.2 hD) rfl (by rw [List.length_map]; exact hn) hl.1 (by rw [hst]; simp [hb_tr]) (lv_room (by rw [hb_cats]; exact hcat)) hd ⟨by omega, by omega⟩) hC h1 h2 e1 e2 hc hs hD hl hgo
end HSC
