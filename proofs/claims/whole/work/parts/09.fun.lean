/-! what the printed functions are made of, and calls by the kind of their answer -/
def hb_FU : Nat := 4096
theorem hb_bind {α β : Type} {x : Option α} {f : α → Option β} {r : β} (h : x.bind f = some r) : ∃ v, x = some v ∧ f v = some r := Option.bind_eq_some_iff.mp h
def hb_on {α : Type} (σ : hb_M) (b ci : Nat) (x : Option α) : Option α := match σ.1[b]? with
  | some (q, _) => if q = ci + 4 then x else none
  | none => none
theorem hb_on_at {α : Type} {σ : hb_M} {b ci : Nat} {x : Option α} {r : α} (h : hb_on σ b ci x = some r) : x = some r ∧ ∃ nf, σ.1[b]? = some (ci + 4, nf) := by
  unfold hb_on at h
  split at h
  · next q nf hq =>
    split at h
    · next h1 => exact ⟨h, nf, by rw [hq, h1]⟩
    · cases h
  · cases h
def hb_zr (v : Int32) (σ : hb_M) : Option (Int32 × hb_M) := if v = 0 ∨ v = 1 then some (v, σ) else none
theorem hb_zr_at {v : Int32} {σ : hb_M} {r : Int32 × hb_M} (h : hb_zr v σ = some r) : r = (v, σ) ∧ narrow .boolean (.int v) = .int v := by
  unfold hb_zr at h
  split at h
  · next h1 =>
    cases h
    refine ⟨rfl, ?_⟩
    rcases h1 with h1 | h1 <;> (subst h1; decide)
  · cases h
/-- an answer or an exception -/
def hb_xb {α β : Type} (x : Option ((String ⊕ α) × hb_M)) (k : α → hb_M → Option ((String ⊕ β) × hb_M)) : Option ((String ⊕ β) × hb_M) := match x with
  | none => none
  | some (.inl E, s) => some (.inl E, s)
  | some (.inr v, s) => k v s
theorem hb_xb_at {α β : Type} {x : Option ((String ⊕ α) × hb_M)} {k : α → hb_M → Option ((String ⊕ β) × hb_M)} {r : (String ⊕ β) × hb_M} (h : hb_xb x k = some r) : (∃ E s, x = some (.inl E, s) ∧ r = (.inl E, s)) ∨ ∃ v s, x = some (.inr v, s) ∧ k v s = some r := by
  unfold hb_xb at h
  split at h
  · cases h
  · next E s => cases h; exact Or.inl ⟨E, s, rfl, rfl⟩
  · next v s => exact Or.inr ⟨v, s, rfl, h⟩
def hb_xi (r : (String ⊕ Int32) × hb_M) : hb_R := match r with
  | (.inl E, s) => (.inr E, s)
  | (.inr v, s) => (.inl (some (.int v)), s)
def hb_xl (r : (String ⊕ Int64) × hb_M) : hb_R := match r with
  | (.inl E, s) => (.inr E, s)
  | (.inr v, s) => (.inl (some (.long v)), s)
def hb_xv (r : (String ⊕ Unit) × hb_M) : hb_R := match r with
  | (.inl E, s) => (.inr E, s)
  | (.inr _, s) => (.inl none, s)
theorem hs_iinc2 {G : hb_G} {l : Launch} {z : Bool} {μ : hb_Y} {d rc rs pc : Nat} {lv lv' : List (Nat × Value)} {st : List Value} {σ : hb_M} {res : hb_R} {i : Nat} {n : Int} {x k : Int32} (hd : decode μ.2.1 pc = .ok (.iinc i n, 3)) (hk : Int32.ofInt n = k) (j : Nat) (hj : lv[j]? = some (i, .int x)) (hn : i < μ.2.2.1) (hl : hb_sv i (.int (x + k)) lv = lv') (h : hb_T G l z μ d rc rs (pc + 3) lv' st σ res) : hb_T G l z μ d rc rs pc lv st σ res := by
  subst hk
  exact hs_iinc hd j hj hn hl h
section HCK
variable {G : hb_G} {l : Launch} {z : Bool} {μ μ' : hb_Y} {d d' mc ms rc rs pc : Nat} {lv : List (Nat × Value)} {st : List Value} {σ σ1 : hb_M} {res : hb_R}
theorem hs_callVi {v : Int32} {idx n b ci nf : Nat} {As rest : List Value} (hd : decode μ.2.1 pc = .ok (.invokevirtual idx, 3)) (hk : Cond.methodLink μ.1.cls idx μ'.1 ∈ hb_wl) (ho : hb_okV μ' n) (hn : As.length = n) (hdd : d' + 1 ≤ d) (hst : st = As.reverse ++ .ref b :: rest) (hcat : (rest.map fun v => v.category).sum ≤ 8) (hcl : (vwCl[ci]?).map (fun q => q.1) = some μ'.1.cls) (hb : σ.1[b]? = some (ci + 4, nf)) (hM : hb_Call G l z d' mc ms μ' (.ref b :: As) σ (.inl (some (.int v)), σ1)) (h : hb_T G l z μ d rc rs (pc + 3) lv (.int v :: rest) σ1 res) : hb_T G l z μ d (mc + rc) (ms + rs) pc lv st σ res :=
  hs_callV hd hk ho hn hdd hst hcat hcl hb hM h
theorem hs_callSi {v : Int32} {idx n : Nat} {As rest : List Value} (hd : decode μ.2.1 pc = .ok (.invokestatic idx, 3)) (hk : Cond.methodLink μ.1.cls idx μ'.1 ∈ hb_wl) (ho : hb_okS μ' n) (hn : As.length = n) (hdd : d' + 1 ≤ d) (hst : st = As.reverse ++ rest) (hcat : (rest.map fun v => v.category).sum ≤ 8) (hM : hb_Call G l z d' mc ms μ' As σ (.inl (some (.int v)), σ1)) (h : hb_T G l z μ d rc rs (pc + 3) lv (.int v :: rest) σ1 res) : hb_T G l z μ d (mc + rc) (ms + rs) pc lv st σ res :=
  hs_callS hd hk ho hn hdd hst hcat hM h
theorem hs_callSNi {v : Int32} {idx n : Nat} {As rest : List Value} (hd : decode μ.2.1 pc = .ok (.invokestatic idx, 3)) (hk : Cond.methodLinkNest μ.1.cls idx μ'.1 "HeapBrowser" ∈ hb_nw) (ho : hb_okS μ' n) (hn : As.length = n) (hdd : d' + 1 ≤ d) (hst : st = As.reverse ++ rest) (hcat : (rest.map fun v => v.category).sum ≤ 8) (hM : hb_Call G l z d' mc ms μ' As σ (.inl (some (.int v)), σ1)) (h : hb_T G l z μ d rc rs (pc + 3) lv (.int v :: rest) σ1 res) : hb_T G l z μ d (mc + rc) (ms + rs) pc lv st σ res :=
  hs_callSN hd hk ho hn hdd hst hcat hM h
theorem hs_callVl {v : Int64} {idx n b ci nf : Nat} {As rest : List Value} (hd : decode μ.2.1 pc = .ok (.invokevirtual idx, 3)) (hk : Cond.methodLink μ.1.cls idx μ'.1 ∈ hb_wl) (ho : hb_okV μ' n) (hn : As.length = n) (hdd : d' + 1 ≤ d) (hst : st = As.reverse ++ .ref b :: rest) (hcat : (rest.map fun v => v.category).sum ≤ 8) (hcl : (vwCl[ci]?).map (fun q => q.1) = some μ'.1.cls) (hb : σ.1[b]? = some (ci + 4, nf)) (hM : hb_Call G l z d' mc ms μ' (.ref b :: As) σ (.inl (some (.long v)), σ1)) (h : hb_T G l z μ d rc rs (pc + 3) lv (.long v :: rest) σ1 res) : hb_T G l z μ d (mc + rc) (ms + rs) pc lv st σ res :=
  hs_callV hd hk ho hn hdd hst hcat hcl hb hM h
theorem hs_callSl {v : Int64} {idx n : Nat} {As rest : List Value} (hd : decode μ.2.1 pc = .ok (.invokestatic idx, 3)) (hk : Cond.methodLink μ.1.cls idx μ'.1 ∈ hb_wl) (ho : hb_okS μ' n) (hn : As.length = n) (hdd : d' + 1 ≤ d) (hst : st = As.reverse ++ rest) (hcat : (rest.map fun v => v.category).sum ≤ 8) (hM : hb_Call G l z d' mc ms μ' As σ (.inl (some (.long v)), σ1)) (h : hb_T G l z μ d rc rs (pc + 3) lv (.long v :: rest) σ1 res) : hb_T G l z μ d (mc + rc) (ms + rs) pc lv st σ res :=
  hs_callS hd hk ho hn hdd hst hcat hM h
theorem hs_callSNl {v : Int64} {idx n : Nat} {As rest : List Value} (hd : decode μ.2.1 pc = .ok (.invokestatic idx, 3)) (hk : Cond.methodLinkNest μ.1.cls idx μ'.1 "HeapBrowser" ∈ hb_nw) (ho : hb_okS μ' n) (hn : As.length = n) (hdd : d' + 1 ≤ d) (hst : st = As.reverse ++ rest) (hcat : (rest.map fun v => v.category).sum ≤ 8) (hM : hb_Call G l z d' mc ms μ' As σ (.inl (some (.long v)), σ1)) (h : hb_T G l z μ d rc rs (pc + 3) lv (.long v :: rest) σ1 res) : hb_T G l z μ d (mc + rc) (ms + rs) pc lv st σ res :=
  hs_callSN hd hk ho hn hdd hst hcat hM h
theorem hs_callVa {v : Nat} {idx n b ci nf : Nat} {As rest : List Value} (hd : decode μ.2.1 pc = .ok (.invokevirtual idx, 3)) (hk : Cond.methodLink μ.1.cls idx μ'.1 ∈ hb_wl) (ho : hb_okV μ' n) (hn : As.length = n) (hdd : d' + 1 ≤ d) (hst : st = As.reverse ++ .ref b :: rest) (hcat : (rest.map fun v => v.category).sum ≤ 8) (hcl : (vwCl[ci]?).map (fun q => q.1) = some μ'.1.cls) (hb : σ.1[b]? = some (ci + 4, nf)) (hM : hb_Call G l z d' mc ms μ' (.ref b :: As) σ (.inl (some (.ref v)), σ1)) (h : hb_T G l z μ d rc rs (pc + 3) lv (.ref v :: rest) σ1 res) : hb_T G l z μ d (mc + rc) (ms + rs) pc lv st σ res :=
  hs_callV hd hk ho hn hdd hst hcat hcl hb hM h
theorem hs_callSa {v : Nat} {idx n : Nat} {As rest : List Value} (hd : decode μ.2.1 pc = .ok (.invokestatic idx, 3)) (hk : Cond.methodLink μ.1.cls idx μ'.1 ∈ hb_wl) (ho : hb_okS μ' n) (hn : As.length = n) (hdd : d' + 1 ≤ d) (hst : st = As.reverse ++ rest) (hcat : (rest.map fun v => v.category).sum ≤ 8) (hM : hb_Call G l z d' mc ms μ' As σ (.inl (some (.ref v)), σ1)) (h : hb_T G l z μ d rc rs (pc + 3) lv (.ref v :: rest) σ1 res) : hb_T G l z μ d (mc + rc) (ms + rs) pc lv st σ res :=
  hs_callS hd hk ho hn hdd hst hcat hM h
theorem hs_callSNa {v : Nat} {idx n : Nat} {As rest : List Value} (hd : decode μ.2.1 pc = .ok (.invokestatic idx, 3)) (hk : Cond.methodLinkNest μ.1.cls idx μ'.1 "HeapBrowser" ∈ hb_nw) (ho : hb_okS μ' n) (hn : As.length = n) (hdd : d' + 1 ≤ d) (hst : st = As.reverse ++ rest) (hcat : (rest.map fun v => v.category).sum ≤ 8) (hM : hb_Call G l z d' mc ms μ' As σ (.inl (some (.ref v)), σ1)) (h : hb_T G l z μ d rc rs (pc + 3) lv (.ref v :: rest) σ1 res) : hb_T G l z μ d (mc + rc) (ms + rs) pc lv st σ res :=
  hs_callSN hd hk ho hn hdd hst hcat hM h
theorem hs_callVv {idx n b ci nf : Nat} {As rest : List Value} (hd : decode μ.2.1 pc = .ok (.invokevirtual idx, 3)) (hk : Cond.methodLink μ.1.cls idx μ'.1 ∈ hb_wl) (ho : hb_okV μ' n) (hn : As.length = n) (hdd : d' + 1 ≤ d) (hst : st = As.reverse ++ .ref b :: rest) (hcat : (rest.map fun v => v.category).sum ≤ 8) (hcl : (vwCl[ci]?).map (fun q => q.1) = some μ'.1.cls) (hb : σ.1[b]? = some (ci + 4, nf)) (hM : hb_Call G l z d' mc ms μ' (.ref b :: As) σ (.inl (none), σ1)) (h : hb_T G l z μ d rc rs (pc + 3) lv rest σ1 res) : hb_T G l z μ d (mc + rc) (ms + rs) pc lv st σ res :=
  hs_callV hd hk ho hn hdd hst hcat hcl hb hM h
theorem hs_callSv {idx n : Nat} {As rest : List Value} (hd : decode μ.2.1 pc = .ok (.invokestatic idx, 3)) (hk : Cond.methodLink μ.1.cls idx μ'.1 ∈ hb_wl) (ho : hb_okS μ' n) (hn : As.length = n) (hdd : d' + 1 ≤ d) (hst : st = As.reverse ++ rest) (hcat : (rest.map fun v => v.category).sum ≤ 8) (hM : hb_Call G l z d' mc ms μ' As σ (.inl (none), σ1)) (h : hb_T G l z μ d rc rs (pc + 3) lv rest σ1 res) : hb_T G l z μ d (mc + rc) (ms + rs) pc lv st σ res :=
  hs_callS hd hk ho hn hdd hst hcat hM h
theorem hs_callSNv {idx n : Nat} {As rest : List Value} (hd : decode μ.2.1 pc = .ok (.invokestatic idx, 3)) (hk : Cond.methodLinkNest μ.1.cls idx μ'.1 "HeapBrowser" ∈ hb_nw) (ho : hb_okS μ' n) (hn : As.length = n) (hdd : d' + 1 ≤ d) (hst : st = As.reverse ++ rest) (hcat : (rest.map fun v => v.category).sum ≤ 8) (hM : hb_Call G l z d' mc ms μ' As σ (.inl (none), σ1)) (h : hb_T G l z μ d rc rs (pc + 3) lv rest σ1 res) : hb_T G l z μ d (mc + rc) (ms + rs) pc lv st σ res :=
  hs_callSN hd hk ho hn hdd hst hcat hM h
theorem hs_callIv {y9 : MethodName} {cc9 : ByteArray} {nL9 : Nat} {idx n b : Nat} {As rest : List Value} (hd : decode μ.2.1 pc = .ok (.invokespecial idx, 3)) (hk : Cond.methodLink μ.1.cls idx y9 ∈ hb_wl ∨ Cond.methodLinkNest μ.1.cls idx y9 "HeapBrowser" ∈ hb_nw) (ho : hb_okI (y9, cc9, nL9, none, [], false) n) (hn : As.length = n) (hdd : d' + 1 ≤ d) (hst : st = As.reverse ++ .ref b :: rest) (hcat : (rest.map fun v => v.category).sum ≤ 8) (hM : hb_Call G l z d' mc ms (y9, cc9, nL9, none, [], false) (.ref b :: As) σ (.inl none, σ1)) (h : hb_T G l z μ d rc rs (pc + 3) lv rest σ1 res) : hb_T G l z μ d (mc + rc) (ms + rs) pc lv st σ res :=
  hs_callI hd hk ho hn hdd hst hcat hM h
/-- a static method that throws -/
theorem hs_callSx {E : String} {idx n : Nat} {As rest : List Value} (hd : decode μ.2.1 pc = .ok (.invokestatic idx, 3)) (hk : Cond.methodLink μ.1.cls idx μ'.1 ∈ hb_wl) (ho : hb_okS μ' n) (hn : As.length = n) (hdd : d' + 1 ≤ d) (hst : st = As.reverse ++ rest) (hcat : (rest.map fun v => v.category).sum ≤ 8) (hM : hb_Call G l z d' mc ms μ' As σ (.inr E, σ1)) (hr : res = (.inr E, σ1)) : hb_T G l z μ d (mc + rc) (ms + rs) pc lv st σ res :=
  hs_callS hd hk ho hn hdd hst hcat hM hr
end HCK
section HMM
variable {G : hb_G} {l : Launch} {z : Bool} {μ : hb_Y} {d rc rs pc : Nat} {lv : List (Nat × Value)} {st : List Value} {σ : hb_M} {res : hb_R}
theorem hs_mmin {idx : Nat} {x y : Int32} (hd : decode μ.2.1 pc = .ok (.invokestatic idx, 3)) (hk : Cond.methodLink μ.1.cls idx Lib.Math.min.name ∈ hb_wl) (h1 : Cond.static Lib.Math.min.name ∈ hb_wl) (h2 : Cond.initialized "java/lang/Math" ∈ hb_wl) (h3 : Cond.code Lib.Math.min.name Lib.Math.min.code 2 (some .int) ∈ hb_wl) (hcat : (st.map fun v => v.category).sum ≤ 8) (h : hb_T G l z μ d rc rs (pc + 3) lv (.int (if y < x then y else x) :: st) σ res) : hb_T G l z μ d rc rs pc lv (.int y :: .int x :: st) σ res := by
  intro p e R s m args below meth c Q hC g1 g2 e1 e2 H locs cells slots ls hc hs hD hl
  have hts := hC.2.2.2.2.1
  exact va_mmin hC.1 hC.2.1 (by rw [hC.2.2.1, hl.1]) hC.2.2.2.1 (hts _ hk) (hts _ h1) (hts _ h2) (hts _ h3) (by omega) (by rw [hb_cats]; omega) (by omega) (by omega) hd (h p e R s m args below meth c Q hC g1 g2 e1 e2 H locs cells slots ls hc hs hD hl)
theorem hs_mmax {idx : Nat} {x y : Int32} (hd : decode μ.2.1 pc = .ok (.invokestatic idx, 3)) (hk : Cond.methodLink μ.1.cls idx Lib.Math.max.name ∈ hb_wl) (h1 : Cond.static Lib.Math.max.name ∈ hb_wl) (h2 : Cond.initialized "java/lang/Math" ∈ hb_wl) (h3 : Cond.code Lib.Math.max.name Lib.Math.max.code 2 (some .int) ∈ hb_wl) (hcat : (st.map fun v => v.category).sum ≤ 8) (h : hb_T G l z μ d rc rs (pc + 3) lv (.int (if x < y then y else x) :: st) σ res) : hb_T G l z μ d rc rs pc lv (.int y :: .int x :: st) σ res := by
  intro p e R s m args below meth c Q hC g1 g2 e1 e2 H locs cells slots ls hc hs hD hl
  have hts := hC.2.2.2.2.1
  exact va_mmax hC.1 hC.2.1 (by rw [hC.2.2.1, hl.1]) hC.2.2.2.1 (hts _ hk) (hts _ h1) (hts _ h2) (hts _ h3) (by omega) (by rw [hb_cats]; omega) (by omega) (by omega) hd (h p e R s m args below meth c Q hC g1 g2 e1 e2 H locs cells slots ls hc hs hD hl)
end HMM
/-! String constants: .retAddr (i + 1) is the i-th, .retAddr (i + 11) its bytes -/
def hb_ssv (k : Nat) : Option Nat := if 1 ≤ k ∧ k ≤ 3 then some (k + 10) else none
def hb_ssc (k : Nat) : Option Int32 := if 1 ≤ k ∧ k ≤ 3 then some 0 else none
def hb_ssl (k : Nat) : Option Int32 := if 11 ≤ k ∧ k ≤ 13 then some (Int32.ofNat (hb_slen.getD (k - 11) 0)) else none
def hb_ssb (k : Nat) (i : Int32) : Option Int32 := if 11 ≤ k ∧ k ≤ 13 ∧ ¬ (i < 0 ∨ hb_slen.getD (k - 11) 0 ≤ i.toNatClampNeg) then some ((hb_sbyt.getD (k - 11) []).getD i.toNatClampNeg 0) else none
def hb_son {α : Type} (k : Nat) (x : Option α) : Option α := if 1 ≤ k ∧ k ≤ 3 then x else none
theorem hb_son_at {α : Type} {k : Nat} {x : Option α} {r : α} (h : hb_son k x = some r) : x = some r ∧ 1 ≤ k ∧ k ≤ 3 := by
  unfold hb_son at h
  split at h
  · next h1 => exact ⟨h, h1⟩
  · cases h
section HSTR
variable {G : hb_G} {l : Launch} {z : Bool} {μ μ' : hb_Y} {d d' mc ms rc rs pc : Nat} {lv : List (Nat × Value)} {st : List Value} {σ σ1 : hb_M} {res : hb_R}
theorem hs_ldcS {idx i : Nat} {tx : String} (hd : decode μ.2.1 pc = .ok (.ldc idx, 2)) (hm : (μ.1.cls, idx, tx, i) ∈ hb_str) (h : hb_T G l z μ d rc rs (pc + 2) lv (.retAddr (i + 1) :: st) σ res) : hb_T G l z μ d rc rs pc lv st σ res := by
  intro p e R s m args below meth c Q hC g1 g2 e1 e2 H locs cells slots ls hc hs hD hl
  exact va_ldcS hC.1 hC.2.1 hC.2.2.2.1 (hC.2.2.2.2.2.2.2.2.2.2.2.2.1 _ hm) hd (h p e R s m args below meth c Q hC g1 g2 e1 e2 H locs cells slots ls hc hs hD hl)
theorem hs_compact {idx : Nat} (hd : decode μ.2.1 pc = .ok (.getstatic idx, 3)) (hk : Cond.fieldLink μ.1.cls idx "java/lang/String" "COMPACT_STRINGS" "Z" ∈ hb_wl) (h : hb_T G l z μ d rc rs (pc + 3) lv (.int 1 :: st) σ res) : hb_T G l z μ d rc rs pc lv st σ res := by
  intro p e R s m args below meth c Q hC g1 g2 e1 e2 H locs cells slots ls hc hs hD hl
  exact va_gets hC.1 hC.2.1 hC.2.2.2.2.2.2.2.2.2.2.2.2.2.2.1 hD.2.1 hC.2.2.2.1 (hC.2.2.2.2.1 _ hk) (fun x h9 => h9) hd (h p e R s m args below meth c Q hC g1 g2 e1 e2 H locs cells slots ls hc hs hD hl)
theorem hs_ssv {idx k b : Nat} (hd : decode μ.2.1 pc = .ok (.getfield idx, 3)) (hk : Cond.fieldLink μ.1.cls idx "java/lang/String" "value" "[B" ∈ hb_wl) (hv : hb_ssv k = some b) (h : hb_T G l z μ d rc rs (pc + 3) lv (.retAddr b :: st) σ res) : hb_T G l z μ d rc rs pc lv (.retAddr k :: st) σ res := by
  unfold hb_ssv at hv
  split at hv
  · next h9 =>
    cases hv
    obtain ⟨j, rfl⟩ : ∃ j, k = j + 1 := ⟨k - 1, by omega⟩
    intro p e R s m args below meth c Q hC g1 g2 e1 e2 H locs cells slots ls hc hs hD hl
    exact vk_getf hC.1 hC.2.1 ((hC.2.2.2.2.2.2.2.2.2.2.2.2.2.1).1 j (by omega)).2.2.1 hD.2.1 hC.2.2.2.1 (hC.2.2.2.2.1 _ hk) (fun x h9 => h9) hd (h p e R s m args below meth c Q hC g1 g2 e1 e2 H locs cells slots ls hc hs hD hl)
  · cases hv
theorem hs_ssc {idx k : Nat} {x : Int32} (hd : decode μ.2.1 pc = .ok (.getfield idx, 3)) (hk : Cond.fieldLink μ.1.cls idx "java/lang/String" "coder" "B" ∈ hb_wl) (hv : hb_ssc k = some x) (h : hb_T G l z μ d rc rs (pc + 3) lv (.int x :: st) σ res) : hb_T G l z μ d rc rs pc lv (.retAddr k :: st) σ res := by
  unfold hb_ssc at hv
  split at hv
  · next h9 =>
    cases hv
    obtain ⟨j, rfl⟩ : ∃ j, k = j + 1 := ⟨k - 1, by omega⟩
    intro p e R s m args below meth c Q hC g1 g2 e1 e2 H locs cells slots ls hc hs hD hl
    exact vk_getf hC.1 hC.2.1 ((hC.2.2.2.2.2.2.2.2.2.2.2.2.2.1).1 j (by omega)).2.1 hD.2.1 hC.2.2.2.1 (hC.2.2.2.2.1 _ hk) (fun x h9 => h9) hd (h p e R s m args below meth c Q hC g1 g2 e1 e2 H locs cells slots ls hc hs hD hl)
  · cases hv
theorem hs_ssl {k : Nat} {x : Int32} (hd : decode μ.2.1 pc = .ok (.arraylength, 1)) (hv : hb_ssl k = some x) (h : hb_T G l z μ d rc rs (pc + 1) lv (.int x :: st) σ res) : hb_T G l z μ d rc rs pc lv (.retAddr k :: st) σ res := by
  unfold hb_ssl at hv
  split at hv
  · next h9 =>
    cases hv
    obtain ⟨j, rfl⟩ : ∃ j, k = j + 11 := ⟨k - 11, by omega⟩
    intro p e R s m args below meth c Q hC g1 g2 e1 e2 H locs cells slots ls hc hs hD hl
    exact va_tlen hC.1 hC.2.1 ((hC.2.2.2.2.2.2.2.2.2.2.2.2.2.1).1 j (by omega)).2.2.2 hD.2.1 (by rw [Nat.add_sub_cancel]) hd (h p e R s m args below meth c Q hC g1 g2 e1 e2 H locs cells slots ls hc hs hD hl)
  · cases hv
theorem hs_ssb {k : Nat} {i x : Int32} (hd : decode μ.2.1 pc = .ok (.baload, 1)) (hv : hb_ssb k i = some x) (h : hb_T G l z μ d rc rs (pc + 1) lv (.int x :: st) σ res) : hb_T G l z μ d rc rs pc lv (.int i :: .retAddr k :: st) σ res := by
  unfold hb_ssb at hv
  split at hv
  · next h9 =>
    cases hv
    obtain ⟨j, rfl⟩ : ∃ j, k = j + 11 := ⟨k - 11, by omega⟩
    rw [Nat.add_sub_cancel] at h h9
    intro p e R s m args below meth c Q hC g1 g2 e1 e2 H locs cells slots ls hc hs hD hl
    exact va_tb hC.1 hC.2.1 ((hC.2.2.2.2.2.2.2.2.2.2.2.2.2.1).1 j (by omega)).2.2.2 hD.2.1 h9.2.2 rfl hd (h p e R s m args below meth c Q hC g1 g2 e1 e2 H locs cells slots ls hc hs hD hl)
  · cases hv
theorem hs_callVSi {v : Int32} {idx n b : Nat} {As rest : List Value} (hd : decode μ.2.1 pc = .ok (.invokevirtual idx, 3)) (hk : Cond.methodLink μ.1.cls idx μ'.1 ∈ hb_wl) (ho : hb_okV μ' n) (hcl : μ'.1.cls = "java/lang/String") (hn : As.length = n) (hdd : d' + 1 ≤ d) (hst : st = As.reverse ++ .retAddr b :: rest) (hcat : (rest.map fun v => v.category).sum ≤ 8) (hb : 1 ≤ b ∧ b ≤ 3)
    (hM : hb_Call G l z d' mc ms μ' (.retAddr b :: As) σ (.inl (some (.int v)), σ1)) (h : hb_T G l z μ d rc rs (pc + 3) lv (.int v :: rest) σ1 res) : hb_T G l z μ d (mc + rc) (ms + rs) pc lv st σ res := by
  intro p e R s m args below meth c Q hC h1 h2 e1 e2 H locs cells slots ls hc hs hD hl
  obtain ⟨⟨o1, o2, o3, o4⟩, o5, o6⟩ := ho
  have hts := hC.2.2.2.2.1
  obtain ⟨j, rfl⟩ : ∃ j, b = j + 1 := ⟨b - 1, by omega⟩
  have hO := ((hC.2.2.2.2.2.2.2.2.2.2.2.2.2.1).1 j (by omega)).1
  have hrc : ∃ cell : Cell, H[G.2.2.2.1 (j + 2)]? = some cell ∧ cell.vm.isStatics = false ∧ s.vm.findClass μ'.1.cls = some cell.cls := by
    obtain ⟨cell, k1, k2, k3, k4⟩ := va_O.kept hO hD.2.1.2.1
    exact ⟨cell, k1, k2, by rw [hcl]; exact k3⟩
  refine hb_after (res' := (.inl (some (.int v)), σ1)) (vx_runV (As := As.map (hb_tr G)) (b := G.2.2.2.1 (j + 2)) (C := μ'.1.cls) ⟨hC.1, hC.2.1, hC.2.2.1, hC.2.2.2.1, hts⟩ hM ⟨callB_of n hts (hb_goodIn o2) rfl rfl rfl (hts _ o1) (hts _ hk) o3 ⟨by show d' + 8 + 1 ≤ _; omega, by show 8 + (μ'.2.2.1 + 11) + (100 * d' + 200) ≤ _; omega⟩, hts _ o5, hts _ o6⟩ ⟨(hb_PreS (As := .retAddr (j + 1) :: As) hC.2.2.2.2.2.2 hD).1, hrc, (hb_PreS (As := .retAddr (j + 1) :: As) hC.2.2.2.2.2.2 hD).2⟩ rfl (by rw [List.length_map]; exact hn) hl.1 (by rw [hst]; simp [hb_tr]) (lv_room (by rw [hb_cats]; exact hcat)) hd ⟨by omega, by omega⟩) hC h1 h2 e1 e2 hc hs hD hl h
end HSTR
