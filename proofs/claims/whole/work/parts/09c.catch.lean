/-! methods with a table of handlers (the law's own helpers) -/
def hb_xc {α β : Type} (x : Option ((String ⊕ α) × hb_M)) (kE : String → hb_M → Option β) (k : α → hb_M → Option β) : Option β := match x with
  | none => none
  | some (.inl E, s) => kE E s
  | some (.inr v, s) => k v s
theorem hb_xc_at {α β : Type} {x : Option ((String ⊕ α) × hb_M)} {kE : String → hb_M → Option β} {k : α → hb_M → Option β} {r : β} (h : hb_xc x kE k = some r) : (∃ E s, x = some (.inl E, s) ∧ kE E s = some r) ∨ ∃ v s, x = some (.inr v, s) ∧ k v s = some r := by
  unfold hb_xc at h
  split at h
  · cases h
  · next E s => exact Or.inl ⟨E, s, rfl, h⟩
  · next v s => exact Or.inr ⟨v, s, rfl, h⟩
def hb_CallX (G : hb_G) (l : Launch) (z : Bool) (d mc ms : Nat) (μ : hb_Y) (As : List Value) (σ : hb_M) (res : hb_R) : Prop :=
  vx_Met l μ.1 (Cond.codeWith μ.1 μ.2.1 μ.2.2.1 μ.2.2.2.1 μ.2.2.2.2.1 :: hb_wl) (hb_rm d mc ms) (hb_Pre G z As σ) (hb_Q G z mc res) (hb_X G z res) mc ms (hb_A G)
section HCAT
variable {G : hb_G} {l : Launch} {z : Bool} {μ μ' : hb_Y} {d d' mc ms rc rs pc : Nat} {lv : List (Nat × Value)} {st : List Value} {σ σ1 : hb_M} {res : hb_R}
/-- such a method's contract: it doesn't throw -/
theorem hb_metX {As : List Value} {v9 : Option Value} (hy : plainName μ.1.cls = true) (hAs : (lg_sl As).length ≤ μ.2.2.1) (hT : hb_T G l z μ d mc ms 0 (lv_args 0 As) [] σ (.inl v9, σ1)) (h0 : μ.2.2.2.2.2 = false := by rfl) : hb_CallX G l z d mc ms μ As σ (.inl v9, σ1) := by
  have hfl : (μ.2.2.2.2.2 || z) = z := by rw [h0]; rfl
  refine vx_ofWH (cc := μ.2.1) (maxL := μ.2.2.1) (ret := μ.2.2.2.1) (hh := μ.2.2.2.2.1) hy rfl ?_
  intro p e s m args below meth c s₁ B hml hv
  obtain ⟨rfl, hSt, hK⟩ := hv
  have hts := atoms_spec (ws := Cond.codeWith μ.1 μ.2.1 μ.2.2.1 μ.2.2.2.1 μ.2.2.2.2.1 :: hb_wl) B.pre
  have htab := vx_table (x := μ.1) B (hts _ List.mem_cons_self)
  have hlocks := B.notSynchronized
  have hr := B.returns
  rw [lg_entry_eq]
  refine hT p e _ s m _ below meth c _ ⟨B.exec, B.bytes, hml, findClass_of_methodNamed B.named, fun w hw => hts w (List.mem_cons_of_mem _ hw), fun _ => ⟨(name_of_methodNamed B.named B.method).1, htab⟩, hK⟩ (Nat.le_refl _) (Nat.le_refl _) ?_ ?_ s.heap [] 0 0 _ (Nat.le_of_eq (Nat.zero_add _)) (Nat.le_of_eq (Nat.zero_add _)) ⟨hSt.1, va_S.rf, fun hf => ⟨hSt.2 hf, rfl, Nat.zero_add _⟩⟩ (by
    rw [← hb_lvargs]
    exact lv_entry _ (by rw [hb_lgsl]; exact hAs))
  · intro v hv H locs cells slots pc ls hc hs hD hret
    rw [hfl] at hD
    refine vx_ret (W.widen (k := mc) (n := ms) hc hs ?_)
    have hq : ∀ t : State, t.heap = H → hb_Q G z mc (.inl v9, σ1) (As.map (hb_tr G)).toArray s (.returned (v.map (hb_tr G))) t := by
      intro t ht
      refine ⟨⟨v, hv, rfl⟩, ⟨by rw [ht]; exact hD.1, fun hf => by rw [ht]; exact (hD.2.2 hf).1⟩, hD.2.1.F ht, fun hf => ?_⟩
      obtain ⟨k1, k2, k3⟩ := hD.2.2 hf
      rw [ht, ← k2]
      have k4 : cells + 0 = mc := k3
      omega
    match v, hret, hq with
    | none, hret, hq =>
      exact W.vret B.exec B.bytes (by rw [hr]; exact hret.2) (fun t ht _ => hq t ht) hD.2.1.2.2 hret.1 hlocks
    | some (.int x), hret, hq =>
      obtain ⟨hd, ty, h1, h2⟩ := hret
      exact W.zret B.exec B.bytes (by rw [hr]; exact h1) h2 (fun t ht _ => hq t ht) hD.2.1.2.2 hd hlocks
    | some (.long x), hret, hq =>
      exact W.lret B.exec B.bytes (by rw [hr]; exact hret.2) (fun t ht _ => hq t ht) hD.2.1.2.2 hret.1 hlocks
    | some (.ref x), hret, hq =>
      obtain ⟨hd, nm, h1⟩ := hret
      exact W.aret B.exec B.bytes (by rw [hr]; exact h1) (Or.inl ⟨nm, rfl⟩) (Or.inr ⟨_, rfl⟩) (fun t ht _ => hq t ht) hD.2.1.2.2 hd hlocks
  · intro E hE
    cases hE
/-- a callee throws, a row of the table catches it, its handler stores it away -/
theorem hs_callVx {idx n b ci nf k : Nat} {E : String} {As rest : List Value} (hd : decode μ.2.1 pc = .ok (.invokevirtual idx, 3)) (hk : Cond.methodLink μ.1.cls idx μ'.1 ∈ hb_wl) (ho : hb_okV μ' n) (hn : As.length = n) (hdd : d' + 1 ≤ d) (hst : st = As.reverse ++ .ref b :: rest) (hcat : (rest.map fun v => v.category).sum ≤ 8)
    (hcl : (vwCl[ci]?).map (fun q => q.1) = some μ'.1.cls) (hb : σ.1[b]? = some (ci + 4, nf)) (hM : hb_Call G l true d' mc ms μ' (.ref b :: As) σ (.inr E, σ1))
    (pre : List ExceptionTableEntry) (x : ExceptionTableEntry) (suf : List ExceptionTableEntry) (hsplit : tableOf μ.2.2.2.2.1 = pre ++ x :: suf) (hpass : ∀ y ∈ pre, covers y pc = false ∨ (y.catchType ≠ 0 ∧ ∃ nm : String, Cond.classLink μ.1.cls y.catchType nm ∈ hb_wl ∧ (E, nm) ∈ hb_nc)) (hx : covers x pc = true) (h0 : x.catchType ≠ 0) (hlink : Cond.classLink μ.1.cls x.catchType E ∈ hb_wl) (hcast : Cond.castable E E ∈ hb_xw)
    (hkn : k < μ.2.2.1) {ln : Nat} (hh : (decode μ.2.1 x.handlerPc = .ok (.astore k, 2) ∧ ln = 2) ∨ ∃ q : Fin 4, (q : Nat) = k ∧ decode μ.2.1 x.handlerPc = .ok (.astore_n q, 1) ∧ ln = 1) (h : hb_T G l true μ d rc rs (x.handlerPc + ln) [] [] σ1 res) (hμ : μ.2.2.2.2.2 = false := by rfl) : hb_T G l true μ d (mc + rc) (ms + rs) pc lv st σ res := by
  intro p e R s m args below meth c Q hC h1 h2 e1 e2 H locs cells slots ls hc hs hD hl
  obtain ⟨⟨o1, o2, o3, o4⟩, o5, o6⟩ := ho
  have hts := hC.2.2.2.2.1
  obtain ⟨⟨C, T, N⟩, hq, hqe⟩ := Option.map_eq_some_iff.mp hcl
  have hqe : C = μ'.1.cls := hqe
  subst hqe
  have hP9 := hb_ws_at (G := G) hb
  rw [hb_cellO] at hP9
  have hr := vx_runV (locs := locs) (cells := cells) (slots := slots) (below := below) (meth := meth) (p := p) (e := e) (H := H) (g := F0 m pc ls (st.map (hb_tr G))) (rest := rest.map (hb_tr G)) (As := As.map (hb_tr G)) (b := hb_base G + b) (C := μ'.1.cls) ⟨hC.1, hC.2.1, hC.2.2.1, hC.2.2.2.1, hts⟩ hM ⟨callB_of n hts (hb_goodIn o2) rfl rfl rfl (hts _ o1) (hts _ hk) o3 ⟨(by show d' + 8 + 1 ≤ _; omega : (hb_rm d' mc ms).frames + 1 ≤ R.frames), by show 8 + (μ'.2.2.1 + 11) + (100 * d' + 200) ≤ _; omega⟩, hts _ o5, hts _ o6⟩ ⟨(hb_PreS (As := .ref b :: As) hC.2.2.2.2.2.2 hD).1, va_recv hC.2.2.2.2.2.2.1 hD.1 hq hP9, (hb_PreS (As := .ref b :: As) hC.2.2.2.2.2.2 hD).2⟩ rfl (by rw [List.length_map]; exact hn) hl.1 (by rw [hst]; simp [hb_tr]) (lv_room (by rw [hb_cats]; exact hcat)) hd ⟨by omega, by omega⟩
  intro T hT X
  rcases hr T hT X with ⟨v, st₀, t, T', L, g0, X', hL, k1, k2, ⟨⟨v0, hv0, hov⟩, hSt, hF, hsz⟩, stp⟩ | ⟨q, st₀, t, T', L, E', ce, g0, X', hL, k1, k2, ⟨hE, hSt, hF, hfr⟩, hce, hcv, hcl2, stp⟩
  · cases hv0
  · have hE : E = E' := by cases hE; rfl
    subst hE
    obtain ⟨j1, j2, j3⟩ := vx_keep g0 k1 hD.2.1 (fun q _ h => h) (fun q h => h) hL hF
    have hgo : ∀ ls' : Array Slot, ls'.size = μ.2.2.1 → lv_wf ls' → W p l e R s m args below meth c T'.heap (locs ++ L) (cells + mc) (slots + ms) Q (F0 m (x.handlerPc + ln) ls' []) := fun ls' w1 w2 => h p e R s m args below meth c Q hC h1 h2 e1 e2 T'.heap (locs ++ L) (cells + mc) (slots + ms) ls' (by omega) (by omega) ⟨by rw [k1]; exact hSt.1, j3, fun h9 => by cases h9⟩ ⟨w1, w2, fun q hq9 => by cases hq9⟩
    have hW1 : W p l e R s m args below meth c T'.heap (locs ++ L) (cells + mc) (slots + ms) Q (F0 m x.handlerPc ls [.ref q]) := by
      rcases hh with ⟨hh, rfl⟩ | ⟨q4, hq4, hh, rfl⟩
      · exact lv_astore hC.1 hC.2.1 hh hl hkn rfl (fun ls' hl' => hgo ls' hl'.1 hl'.2.1)
      · exact lv_astore_n hC.1 hC.2.1 hh hq4 hl hkn rfl (fun ls' hl' => hgo ls' hl'.1 hl'.2.1)
    have hKS := hC.2.2.2.2.2.2.2.2.2.2.2.2
    obtain ⟨t2, a1, b1⟩ := vx_catch (rest := rest.map (hb_tr G)) (ls := ls) hC.2.2.2.1 pre x suf (by rw [(hC.2.2.2.2.2.1 hμ).2]; exact hsplit) (fun y hy => by
      rcases hpass y hy with h9 | ⟨h9, nm, h8, h7⟩
      · exact Or.inl h9
      · exact Or.inr ⟨h9, nm, hts _ h8, hKS.2.2.2.2.2.2 _ h7⟩) hx h0 (hts _ hlink) (va_Nw.use (hb_xw_ok _ hcast).1 (hKS.2.2.2.2.2.1 _ hcast)) (by rw [k1]; exact hce) hcv hcl2 hW1 T' rfl X'
    exact ⟨t2, stp.trans a1, b1⟩
def hb_okX (μ : hb_Y) (n : Nat) : Prop := (Cond.initialized μ.1.cls ∈ hb_wl ∧ Cond.codeWith μ.1 μ.2.1 μ.2.2.1 μ.2.2.2.1 μ.2.2.2.2.1 ∈ hb_wl ∧ (μ.1.cls ≠ "java/lang/invoke/MethodHandle" ∧ μ.1.cls ≠ "java/lang/invoke/VarHandle" ∧ (parseMethodDescriptor μ.1.desc).map (fun d => d.parameters.length) = some n) ∧ μ.2.2.1 ≤ 80) ∧ Cond.static μ.1 ∈ hb_wl
theorem hs_callSXi {v : Int32} {idx n : Nat} {As rest : List Value} (hd : decode μ.2.1 pc = .ok (.invokestatic idx, 3)) (hk : Cond.methodLink μ.1.cls idx μ'.1 ∈ hb_wl) (ho : hb_okX μ' n) (hn : As.length = n) (hdd : d' + 1 ≤ d) (hst : st = As.reverse ++ rest) (hcat : (rest.map fun v => v.category).sum ≤ 8)
    (hM : hb_CallX G l z d' mc ms μ' As σ (.inl (some (.int v)), σ1)) (h : hb_T G l z μ d rc rs (pc + 3) lv (.int v :: rest) σ1 res) : hb_T G l z μ d (mc + rc) (ms + rs) pc lv st σ res := by
  intro p e R s m args below meth c Q hC h1 h2 e1 e2 H locs cells slots ls hc hs hD hl
  obtain ⟨⟨o1, o2, o3, o4⟩, o5⟩ := ho
  have hts := hC.2.2.2.2.1
  refine hb_after (res' := (.inl (some (.int v)), σ1)) (vx_runSX (As := As.map (hb_tr G)) ⟨hC.1, hC.2.1, hC.2.2.1, hC.2.2.2.1, hts⟩ hM (vx_cwSW n hts (goodIn_app (fun w hw => ?_) (hb_goodIn o2)) rfl rfl rfl o3 ⟨by show d' + 8 + 1 ≤ _; omega, by show 8 + (μ'.2.2.1 + 11) + (100 * d' + 200) ≤ _; omega⟩) (hb_PreS hC.2.2.2.2.2.2 hD) rfl (by rw [List.length_map]; exact hn) hl.1 (by rw [hst]; simp) (lv_room (by rw [hb_cats]; exact hcat)) hd ⟨by omega, by omega⟩) hC h1 h2 e1 e2 hc hs hD hl h
  have hm : w ∈ hb_wl := by
    simp only [List.mem_cons, List.not_mem_nil, or_false] at hw
    rcases hw with rfl | rfl | rfl
    · exact hk
    · exact o5
    · exact o1
  exact ⟨hm, good_of_word (hb_wl_good w hm)⟩
/-- less to spare, where nothing is counted any more -/
theorem hs_weak {rc' rs' : Nat} (h1 : rc' ≤ rc) (h2 : rs' ≤ rs) (h : hb_T G l true μ d rc' rs' pc lv st σ res) : hb_T G l true μ d rc rs pc lv st σ res := by
  intro p e R s m args below meth c Q hC g1 g2 e1 e2 H locs cells slots ls hc hs hD hl
  exact h p e R s m args below meth c Q hC g1 g2 e1 e2 H locs cells slots ls (by omega) (by omega) ⟨hD.1, hD.2.1, fun h9 => by cases h9⟩ hl
/-- the law's own frame: all cells are made, the counting ends -/
theorem hs_seal {rc' rs' : Nat} {v : Option Value} {σ9 : hb_M} (hf : μ.2.2.2.2.2 = true) (h1 : rc' ≤ rc) (h2 : rs' ≤ rs) (h : hb_T G l true μ d rc' rs' pc lv st σ (.inl v, σ9)) : hb_T G l false μ d rc rs pc lv st σ (.inl v, σ9) := by
  intro p e R s m args below meth c Q hC g1 g2 e1 e2 H locs cells slots ls hc hs hD hl
  refine h p e R s m args below meth c Q hC g1 g2 ?_ (fun E hE => by cases hE) H locs cells slots ls (by omega) (by omega) ⟨hD.1, hD.2.1, fun h9 => by cases h9⟩ hl
  intro w hw H locs cells slots pc ls k1 k2 k3 k4
  refine e1 w hw H locs cells slots pc ls k1 k2 ?_ k4
  rw [hf] at k3 ⊢
  exact k3
/-- the law's script -/
theorem hs_slen (hd : decode μ.2.1 pc = .ok (.arraylength, 1)) (h : hb_T G l z μ d rc rs (pc + 1) lv (.int (Int32.ofNat G.2.2.2.2.1) :: st) σ res) : hb_T G l z μ d rc rs pc lv (.retAddr 0 :: st) σ res := by
  intro p e R s m args below meth c Q hC h1 h2 e1 e2 H locs cells slots ls hc hs hD hl
  have hKS := hC.2.2.2.2.2.2.2.2.2.2.2.2
  exact va_slen hC.1 hC.2.1 hKS.2.2.2.1 (Nat.lt_of_lt_of_le hKS.2.2.2.2.1 hC.2.2.2.2.2.2.2.2.2.2.1) (Nat.not_le.mpr hKS.2.2.2.2.1) hD.2.1 hd (h p e R s m args below meth c Q hC h1 h2 e1 e2 H locs cells slots ls hc hs hD hl)
theorem hs_sld {i : Int32} (hin : ¬ (i < 0 ∨ G.2.2.2.2.1 ≤ i.toNatClampNeg)) (hd : decode μ.2.1 pc = .ok (.iaload, 1)) (h : hb_T G l z μ d rc rs (pc + 1) lv (.int (G.2.2.2.2.2 i.toNatClampNeg) :: st) σ res) : hb_T G l z μ d rc rs pc lv (.int i :: .retAddr 0 :: st) σ res := by
  intro p e R s m args below meth c Q hC h1 h2 e1 e2 H locs cells slots ls hc hs hD hl
  have hKS := hC.2.2.2.2.2.2.2.2.2.2.2.2
  exact va_sld hC.1 hC.2.1 hKS.2.2.2.1 (Nat.lt_of_lt_of_le hKS.2.2.2.2.1 hC.2.2.2.2.2.2.2.2.2.2.1) (Nat.not_le.mpr hKS.2.2.2.2.1) hD.2.1 hin hd (h p e R s m args below meth c Q hC h1 h2 e1 e2 H locs cells slots ls hc hs hD hl)
end HCAT
