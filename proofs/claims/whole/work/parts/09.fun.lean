/-! what the printed functions are made of, and calls by the kind of their answer -/
def hb_FU : Nat := 4096
theorem hb_bind {α β : Type} {x : Option α} {f : α → Option β} {r : β} (h : x.bind f = some r) : ∃ v, x = some v ∧ f v = some r := Option.bind_eq_some_iff.mp h
def hb_on {α : Type} (σ : hb_M) (b ci : Nat) (x : Option α) : Option α := match σ.1[b]? with
  | some (q, _) => if q = ci + 4 then x else none
  | none => none
theorem hb_on_at {α : Type} {σ : hb_M} {b ci : Nat} {x : Option α} {r : α} (h : hb_on σ b ci x = some r) : x = some r ∧ ∃ nf, σ.1[b]? = some (ci + 4, nf) := by
  unfold hb_on at h
  split at h
  · next q nf hq =>
    split at h
    · next h1 => exact ⟨h, nf, by rw [hq, h1]⟩
    · cases h
  · cases h
def hb_zr (v : Int32) (σ : hb_M) : Option (Int32 × hb_M) := if v = 0 ∨ v = 1 then some (v, σ) else none
theorem hb_zr_at {v : Int32} {σ : hb_M} {r : Int32 × hb_M} (h : hb_zr v σ = some r) : r = (v, σ) ∧ narrow .boolean (.int v) = .int v := by
  unfold hb_zr at h
  split at h
  · next h1 =>
    cases h
    refine ⟨rfl, ?_⟩
    rcases h1 with h1 | h1 <;> (subst h1; decide)
  · cases h
/-- an answer or an exception -/
def hb_xb {α β : Type} (x : Option ((String ⊕ α) × hb_M)) (k : α → hb_M → Option ((String ⊕ β) × hb_M)) : Option ((String ⊕ β) × hb_M) := match x with
  | none => none
  | some (.inl E, s) => some (.inl E, s)
  | some (.inr v, s) => k v s
theorem hb_xb_at {α β : Type} {x : Option ((String ⊕ α) × hb_M)} {k : α → hb_M → Option ((String ⊕ β) × hb_M)} {r : (String ⊕ β) × hb_M} (h : hb_xb x k = some r) : (∃ E s, x = some (.inl E, s) ∧ r = (.inl E, s)) ∨ ∃ v s, x = some (.inr v, s) ∧ k v s = some r := by
  unfold hb_xb at h
  split at h
  · cases h
  · next E s => cases h; exact Or.inl ⟨E, s, rfl, rfl⟩
  · next v s => exact Or.inr ⟨v, s, rfl, h⟩
def hb_xi (r : (String ⊕ Int32) × hb_M) : hb_R := match r with
  | (.inl E, s) => (.inr E, s)
  | (.inr v, s) => (.inl (some (.int v)), s)
def hb_xl (r : (String ⊕ Int64) × hb_M) : hb_R := match r with
  | (.inl E, s) => (.inr E, s)
  | (.inr v, s) => (.inl (some (.long v)), s)
def hb_xv (r : (String ⊕ Unit) × hb_M) : hb_R := match r with
  | (.inl E, s) => (.inr E, s)
  | (.inr _, s) => (.inl none, s)
theorem hs_iinc2 {G : hb_G} {l : Launch} {z : Bool} {μ : hb_Y} {d rc rs pc : Nat} {lv lv' : List (Nat × Value)} {st : List Value} {σ : hb_M} {res : hb_R} {i : Nat} {n : Int} {x k : Int32} (hd : decode μ.2.1 pc = .ok (.iinc i n, 3)) (hk : Int32.ofInt n = k) (j : Nat) (hj : lv[j]? = some (i, .int x)) (hn : i < μ.2.2.1) (hl : hb_sv i (.int (x + k)) lv = lv') (h : hb_T G l z μ d rc rs (pc + 3) lv' st σ res) : hb_T G l z μ d rc rs pc lv st σ res := by
  subst hk
  exact hs_iinc hd j hj hn hl h
section HCK
variable {G : hb_G} {l : Launch} {z : Bool} {μ μ' : hb_Y} {d d' mc ms rc rs pc : Nat} {lv : List (Nat × Value)} {st : List Value} {σ σ1 : hb_M} {res : hb_R}
theorem hs_callVi {v : Int32} {idx n b ci nf : Nat} {As rest : List Value} (hd : decode μ.2.1 pc = .ok (.invokevirtual idx, 3)) (hk : Cond.methodLink μ.1.cls idx μ'.1 ∈ hb_wl) (ho : hb_okV μ' n) (hn : As.length = n) (hdd : d' + 1 ≤ d) (hst : st = As.reverse ++ .ref b :: rest) (hcat : (rest.map fun v => v.category).sum ≤ 8) (hcl : (vwCl[ci]?).map (fun q => q.1) = some μ'.1.cls) (hb : σ.1[b]? = some (ci + 4, nf)) (hM : hb_Call G l z d' mc ms μ' (.ref b :: As) σ (.inl (some (.int v)), σ1)) (h : hb_T G l z μ d rc rs (pc + 3) lv (.int v :: rest) σ1 res) : hb_T G l z μ d (mc + rc) (ms + rs) pc lv st σ res :=
  hs_callV hd hk ho hn hdd hst hcat hcl hb hM h
theorem hs_callSi {v : Int32} {idx n : Nat} {As rest : List Value} (hd : decode μ.2.1 pc = .ok (.invokestatic idx, 3)) (hk : Cond.methodLink μ.1.cls idx μ'.1 ∈ hb_wl) (ho : hb_okS μ' n) (hn : As.length = n) (hdd : d' + 1 ≤ d) (hst : st = As.reverse ++ rest) (hcat : (rest.map fun v => v.category).sum ≤ 8) (hM : hb_Call G l z d' mc ms μ' As σ (.inl (some (.int v)), σ1)) (h : hb_T G l z μ d rc rs (pc + 3) lv (.int v :: rest) σ1 res) : hb_T G l z μ d (mc + rc) (ms + rs) pc lv st σ res :=
  hs_callS hd hk ho hn hdd hst hcat hM h
theorem hs_callSNi {v : Int32} {idx n : Nat} {As rest : List Value} (hd : decode μ.2.1 pc = .ok (.invokestatic idx, 3)) (hk : Cond.methodLinkNest μ.1.cls idx μ'.1 "HeapBrowser" ∈ hb_nw) (ho : hb_okS μ' n) (hn : As.length = n) (hdd : d' + 1 ≤ d) (hst : st = As.reverse ++ rest) (hcat : (rest.map fun v => v.category).sum ≤ 8) (hM : hb_Call G l z d' mc ms μ' As σ (.inl (some (.int v)), σ1)) (h : hb_T G l z μ d rc rs (pc + 3) lv (.int v :: rest) σ1 res) : hb_T G l z μ d (mc + rc) (ms + rs) pc lv st σ res :=
  hs_callSN hd hk ho hn hdd hst hcat hM h
theorem hs_callVl {v : Int64} {idx n b ci nf : Nat} {As rest : List Value} (hd : decode μ.2.1 pc = .ok (.invokevirtual idx, 3)) (hk : Cond.methodLink μ.1.cls idx μ'.1 ∈ hb_wl) (ho : hb_okV μ' n) (hn : As.length = n) (hdd : d' + 1 ≤ d) (hst : st = As.reverse ++ .ref b :: rest) (hcat : (rest.map fun v => v.category).sum ≤ 8) (hcl : (vwCl[ci]?).map (fun q => q.1) = some μ'.1.cls) (hb : σ.1[b]? = some (ci + 4, nf)) (hM : hb_Call G l z d' mc ms μ' (.ref b :: As) σ (.inl (some (.long v)), σ1)) (h : hb_T G l z μ d rc rs (pc + 3) lv (.long v :: rest) σ1 res) : hb_T G l z μ d (mc + rc) (ms + rs) pc lv st σ res :=
  hs_callV hd hk ho hn hdd hst hcat hcl hb hM h
theorem hs_callSl {v : Int64} {idx n : Nat} {As rest : List Value} (hd : decode μ.2.1 pc = .ok (.invokestatic idx, 3)) (hk : Cond.methodLink μ.1.cls idx μ'.1 ∈ hb_wl) (ho : hb_okS μ' n) (hn : As.length = n) (hdd : d' + 1 ≤ d) (hst : st = As.reverse ++ rest) (hcat : (rest.map fun v => v.category).sum ≤ 8) (hM : hb_Call G l z d' mc ms μ' As σ (.inl (some (.long v)), σ1)) (h : hb_T G l z μ d rc rs (pc + 3) lv (.long v :: rest) σ1 res) : hb_T G l z μ d (mc + rc) (ms + rs) pc lv st σ res :=
  hs_callS hd hk ho hn hdd hst hcat hM h
theorem hs_callSNl {v : Int64} {idx n : Nat} {As rest : List Value} (hd : decode μ.2.1 pc = .ok (.invokestatic idx, 3)) (hk : Cond.methodLinkNest μ.1.cls idx μ'.1 "HeapBrowser" ∈ hb_nw) (ho : hb_okS μ' n) (hn : As.length = n) (hdd : d' + 1 ≤ d) (hst : st = As.reverse ++ rest) (hcat : (rest.map fun v => v.category).sum ≤ 8) (hM : hb_Call G l z d' mc ms μ' As σ (.inl (some (.long v)), σ1)) (h : hb_T G l z μ d rc rs (pc + 3) lv (.long v :: rest) σ1 res) : hb_T G l z μ d (mc + rc) (ms + rs) pc lv st σ res :=
  hs_callSN hd hk ho hn hdd hst hcat hM h
theorem hs_callVa {v : Nat} {idx n b ci nf : Nat} {As rest : List Value} (hd : decode μ.2.1 pc = .ok (.invokevirtual idx, 3)) (hk : Cond.methodLink μ.1.cls idx μ'.1 ∈ hb_wl) (ho : hb_okV μ' n) (hn : As.length = n) (hdd : d' + 1 ≤ d) (hst : st = As.reverse ++ .ref b :: rest) (hcat : (rest.map fun v => v.category).sum ≤ 8) (hcl : (vwCl[ci]?).map (fun q => q.1) = some μ'.1.cls) (hb : σ.1[b]? = some (ci + 4, nf)) (hM : hb_Call G l z d' mc ms μ' (.ref b :: As) σ (.inl (some (.ref v)), σ1)) (h : hb_T G l z μ d rc rs (pc + 3) lv (.ref v :: rest) σ1 res) : hb_T G l z μ d (mc + rc) (ms + rs) pc lv st σ res :=
  hs_callV hd hk ho hn hdd hst hcat hcl hb hM h
theorem hs_callSa {v : Nat} {idx n : Nat} {As rest : List Value} (hd : decode μ.2.1 pc = .ok (.invokestatic idx, 3)) (hk : Cond.methodLink μ.1.cls idx μ'.1 ∈ hb_wl) (ho : hb_okS μ' n) (hn : As.length = n) (hdd : d' + 1 ≤ d) (hst : st = As.reverse ++ rest) (hcat : (rest.map fun v => v.category).sum ≤ 8) (hM : hb_Call G l z d' mc ms μ' As σ (.inl (some (.ref v)), σ1)) (h : hb_T G l z μ d rc rs (pc + 3) lv (.ref v :: rest) σ1 res) : hb_T G l z μ d (mc + rc) (ms + rs) pc lv st σ res :=
  hs_callS hd hk ho hn hdd hst hcat hM h
theorem hs_callSNa {v : Nat} {idx n : Nat} {As rest : List Value} (hd : decode μ.2.1 pc = .ok (.invokestatic idx, 3)) (hk : Cond.methodLinkNest μ.1.cls idx μ'.1 "HeapBrowser" ∈ hb_nw) (ho : hb_okS μ' n) (hn : As.length = n) (hdd : d' + 1 ≤ d) (hst : st = As.reverse ++ rest) (hcat : (rest.map fun v => v.category).sum ≤ 8) (hM : hb_Call G l z d' mc ms μ' As σ (.inl (some (.ref v)), σ1)) (h : hb_T G l z μ d rc rs (pc + 3) lv (.ref v :: rest) σ1 res) : hb_T G l z μ d (mc + rc) (ms + rs) pc lv st σ res :=
  hs_callSN hd hk ho hn hdd hst hcat hM h
theorem hs_callVv {idx n b ci nf : Nat} {As rest : List Value} (hd : decode μ.2.1 pc = .ok (.invokevirtual idx, 3)) (hk : Cond.methodLink μ.1.cls idx μ'.1 ∈ hb_wl) (ho : hb_okV μ' n) (hn : As.length = n) (hdd : d' + 1 ≤ d) (hst : st = As.reverse ++ .ref b :: rest) (hcat : (rest.map fun v => v.category).sum ≤ 8) (hcl : (vwCl[ci]?).map (fun q => q.1) = some μ'.1.cls) (hb : σ.1[b]? = some (ci + 4, nf)) (hM : hb_Call G l z d' mc ms μ' (.ref b :: As) σ (.inl (none), σ1)) (h : hb_T G l z μ d rc rs (pc + 3) lv rest σ1 res) : hb_T G l z μ d (mc + rc) (ms + rs) pc lv st σ res :=
  hs_callV hd hk ho hn hdd hst hcat hcl hb hM h
theorem hs_callSv {idx n : Nat} {As rest : List Value} (hd : decode μ.2.1 pc = .ok (.invokestatic idx, 3)) (hk : Cond.methodLink μ.1.cls idx μ'.1 ∈ hb_wl) (ho : hb_okS μ' n) (hn : As.length = n) (hdd : d' + 1 ≤ d) (hst : st = As.reverse ++ rest) (hcat : (rest.map fun v => v.category).sum ≤ 8) (hM : hb_Call G l z d' mc ms μ' As σ (.inl (none), σ1)) (h : hb_T G l z μ d rc rs (pc + 3) lv rest σ1 res) : hb_T G l z μ d (mc + rc) (ms + rs) pc lv st σ res :=
  hs_callS hd hk ho hn hdd hst hcat hM h
theorem hs_callSNv {idx n : Nat} {As rest : List Value} (hd : decode μ.2.1 pc = .ok (.invokestatic idx, 3)) (hk : Cond.methodLinkNest μ.1.cls idx μ'.1 "HeapBrowser" ∈ hb_nw) (ho : hb_okS μ' n) (hn : As.length = n) (hdd : d' + 1 ≤ d) (hst : st = As.reverse ++ rest) (hcat : (rest.map fun v => v.category).sum ≤ 8) (hM : hb_Call G l z d' mc ms μ' As σ (.inl (none), σ1)) (h : hb_T G l z μ d rc rs (pc + 3) lv rest σ1 res) : hb_T G l z μ d (mc + rc) (ms + rs) pc lv st σ res :=
  hs_callSN hd hk ho hn hdd hst hcat hM h
theorem hs_callIv {y9 : MethodName} {cc9 : ByteArray} {nL9 : Nat} {idx n b : Nat} {As rest : List Value} (hd : decode μ.2.1 pc = .ok (.invokespecial idx, 3)) (hk : Cond.methodLink μ.1.cls idx y9 ∈ hb_wl ∨ Cond.methodLinkNest μ.1.cls idx y9 "HeapBrowser" ∈ hb_nw) (ho : hb_okI (y9, cc9, nL9, none) n) (hn : As.length = n) (hdd : d' + 1 ≤ d) (hst : st = As.reverse ++ .ref b :: rest) (hcat : (rest.map fun v => v.category).sum ≤ 8) (hM : hb_Call G l z d' mc ms (y9, cc9, nL9, none) (.ref b :: As) σ (.inl none, σ1)) (h : hb_T G l z μ d rc rs (pc + 3) lv rest σ1 res) : hb_T G l z μ d (mc + rc) (ms + rs) pc lv st σ res :=
  hs_callI hd hk ho hn hdd hst hcat hM h
/-- a static method that throws -/
theorem hs_callSx {E : String} {idx n : Nat} {As rest : List Value} (hd : decode μ.2.1 pc = .ok (.invokestatic idx, 3)) (hk : Cond.methodLink μ.1.cls idx μ'.1 ∈ hb_wl) (ho : hb_okS μ' n) (hn : As.length = n) (hdd : d' + 1 ≤ d) (hst : st = As.reverse ++ rest) (hcat : (rest.map fun v => v.category).sum ≤ 8) (hM : hb_Call G l z d' mc ms μ' As σ (.inr E, σ1)) (hr : res = (.inr E, σ1)) : hb_T G l z μ d (mc + rc) (ms + rs) pc lv st σ res :=
  hs_callS hd hk ho hn hdd hst hcat hM hr
end HCK
section HMM
variable {G : hb_G} {l : Launch} {z : Bool} {μ : hb_Y} {d rc rs pc : Nat} {lv : List (Nat × Value)} {st : List Value} {σ : hb_M} {res : hb_R}
theorem hs_mmin {idx : Nat} {x y : Int32} (hd : decode μ.2.1 pc = .ok (.invokestatic idx, 3)) (hk : Cond.methodLink μ.1.cls idx Lib.Math.min.name ∈ hb_wl) (h1 : Cond.static Lib.Math.min.name ∈ hb_wl) (h2 : Cond.initialized "java/lang/Math" ∈ hb_wl) (h3 : Cond.code Lib.Math.min.name Lib.Math.min.code 2 (some .int) ∈ hb_wl) (hcat : (st.map fun v => v.category).sum ≤ 8) (h : hb_T G l z μ d rc rs (pc + 3) lv (.int (if y < x then y else x) :: st) σ res) : hb_T G l z μ d rc rs pc lv (.int y :: .int x :: st) σ res := by
  intro p e R s m args below meth c Q hC g1 g2 e1 e2 H locs cells slots ls hc hs hD hl
  have hts := hC.2.2.2.2.1
  exact va_mmin hC.1 hC.2.1 (by rw [hC.2.2.1, hl.1]) hC.2.2.2.1 (hts _ hk) (hts _ h1) (hts _ h2) (hts _ h3) (by omega) (by rw [hb_cats]; omega) (by omega) (by omega) hd (h p e R s m args below meth c Q hC g1 g2 e1 e2 H locs cells slots ls hc hs hD hl)
theorem hs_mmax {idx : Nat} {x y : Int32} (hd : decode μ.2.1 pc = .ok (.invokestatic idx, 3)) (hk : Cond.methodLink μ.1.cls idx Lib.Math.max.name ∈ hb_wl) (h1 : Cond.static Lib.Math.max.name ∈ hb_wl) (h2 : Cond.initialized "java/lang/Math" ∈ hb_wl) (h3 : Cond.code Lib.Math.max.name Lib.Math.max.code 2 (some .int) ∈ hb_wl) (hcat : (st.map fun v => v.category).sum ≤ 8) (h : hb_T G l z μ d rc rs (pc + 3) lv (.int (if x < y then y else x) :: st) σ res) : hb_T G l z μ d rc rs pc lv (.int y :: .int x :: st) σ res := by
  intro p e R s m args below meth c Q hC g1 g2 e1 e2 H locs cells slots ls hc hs hD hl
  have hts := hC.2.2.2.2.1
  exact va_mmax hC.1 hC.2.1 (by rw [hC.2.2.1, hl.1]) hC.2.2.2.1 (hts _ hk) (hts _ h1) (hts _ h2) (hts _ h3) (by omega) (by rw [hb_cats]; omega) (by omega) (by omega) hd (h p e R s m args below meth c Q hC g1 g2 e1 e2 H locs cells slots ls hc hs hD hl)
end HMM
