/-! the small machine's memory: what reads and writes answer (none: not allowed), and their rules -/
theorem hb_cl {ci N : Nat} {C : String} {T : u_T} (h : vwCl[ci]? = some (C, T, N)) : (∀ w ∈ u_ws C T N, w ∈ hb_wl) ∧ (∀ k, k < N → parseFieldDescriptor (T k).2.2.1 = some (hb_tyX ci k)) ∧ (∀ a, a < N → ∀ b, b < N → a ≠ b → (T a).2.1 ≠ (T b).2.1) := by
  match ci, h with
  | 0, h => cases h; exact ⟨fun w h => hb_w0 (inX0 w h) (igX0 w h), tyX0_ok, nmX0⟩
  | 1, h => cases h; exact ⟨fun w h => hb_w0 (inX1 w h) (igX1 w h), tyX1_ok, nmX1⟩
  | 2, h => cases h; exact ⟨fun w h => hb_w0 (inX2 w h) (igX2 w h), tyX2_ok, nmX2⟩
  | 3, h => cases h; exact ⟨fun w h => hb_w0 (inX3 w h) (igX3 w h), tyX3_ok, nmX3⟩
  | 4, h => cases h; exact ⟨fun w h => hb_w0 (inX4 w h) (igX4 w h), tyX4_ok, nmX4⟩
  | 5, h => cases h; exact ⟨fun w h => hb_w0 (inX5 w h) (igX5 w h), tyX5_ok, nmX5⟩
  | 6, h => cases h; exact ⟨fun w h => hb_w0 (inX6 w h) (igX6 w h), tyX6_ok, nmX6⟩
  | 7, h => cases h; exact ⟨fun w h => hb_w0 (inX7 w h) (igX7 w h), tyX7_ok, nmX7⟩
  | 8, h => cases h; exact ⟨fun w h => hb_w0 (inX8 w h) (igX8 w h), tyX8_ok, nmX8⟩
  | 9, h => cases h; exact ⟨fun w h => hb_w0 (inX9 w h) (igX9 w h), tyX9_ok, nmX9⟩
  | n + 10, h => simp [vwCl] at h
def hb_setI (σ : hb_M) (a j : Nat) (x : Int32) : hb_M := (σ.1, va_up σ.2.1 a (upd (σ.2.1 a) j x), σ.2.2)
def hb_setL (σ : hb_M) (a j : Nat) (x : Int64) : hb_M := (σ.1, σ.2.1, va_up σ.2.2.1 a (vp_updL (σ.2.2.1 a) j x), σ.2.2.2)
def hb_setR (σ : hb_M) (a j : Nat) (b : Nat) : hb_M := (σ.1, σ.2.1, σ.2.2.1, va_up σ.2.2.2 a (va_up (σ.2.2.2 a) j (some b)))
def hb_new (σ : hb_M) (κ n : Nat) : hb_M := (σ.1 ++ [(κ, n)], va_up σ.2.1 σ.1.length (fun _ => 0), va_up σ.2.2.1 σ.1.length (fun _ => 0), va_up σ.2.2.2 σ.1.length (fun _ => none))
def hb_iald (σ : hb_M) (a : Nat) (i : Int32) : Option Int32 := match σ.1[a]? with
  | some (0, n) => if i < 0 ∨ n ≤ i.toNatClampNeg then none else some (σ.2.1 a i.toNatClampNeg)
  | _ => none
def hb_zald (σ : hb_M) (a : Nat) (i : Int32) : Option Int32 := match σ.1[a]? with
  | some (2, n) => if i < 0 ∨ n ≤ i.toNatClampNeg then none else some (σ.2.1 a i.toNatClampNeg)
  | _ => none
def hb_lald (σ : hb_M) (a : Nat) (i : Int32) : Option Int64 := match σ.1[a]? with
  | some (1, n) => if i < 0 ∨ n ≤ i.toNatClampNeg then none else some (σ.2.2.1 a i.toNatClampNeg)
  | _ => none
def hb_aald (σ : hb_M) (a : Nat) (i : Int32) : Option Nat := match σ.1[a]? with
  | some (3, n) => if i < 0 ∨ n ≤ i.toNatClampNeg then none else σ.2.2.2 a i.toNatClampNeg
  | _ => none
def hb_iast (σ : hb_M) (a : Nat) (i x : Int32) : Option hb_M := match σ.1[a]? with
  | some (0, n) => if i < 0 ∨ n ≤ i.toNatClampNeg then none else some (hb_setI σ a i.toNatClampNeg x)
  | _ => none
def hb_zast (σ : hb_M) (a : Nat) (i x : Int32) : Option hb_M := match σ.1[a]? with
  | some (2, n) => if i < 0 ∨ n ≤ i.toNatClampNeg then none else some (hb_setI σ a i.toNatClampNeg (vp_nar .boolean x))
  | _ => none
def hb_last (σ : hb_M) (a : Nat) (i : Int32) (x : Int64) : Option hb_M := match σ.1[a]? with
  | some (1, n) => if i < 0 ∨ n ≤ i.toNatClampNeg then none else some (hb_setL σ a i.toNatClampNeg x)
  | _ => none
def hb_aast (σ : hb_M) (a : Nat) (i : Int32) (b : Nat) : Option hb_M := match σ.1[a]?, σ.1[b]? with
  | some (3, n), some (8, _) => if i < 0 ∨ n ≤ i.toNatClampNeg then none else some (hb_setR σ a i.toNatClampNeg b)
  | _, _ => none
def hb_alen (σ : hb_M) (a : Nat) : Option Int32 := match σ.1[a]? with
  | some (0, n) => some (Int32.ofNat n)
  | some (1, n) => some (Int32.ofNat n)
  | _ => none
def hb_isO (σ : hb_M) (a ci k : Nat) : Bool := match σ.1[a]? with
  | some (q, n) => decide (q = ci + 4) && decide (k < n)
  | none => false
def hb_getI (σ : hb_M) (a ci k : Nat) : Option Int32 := if hb_isO σ a ci k then some (σ.2.1 a k) else none
def hb_getL (σ : hb_M) (a ci k : Nat) : Option Int64 := if hb_isO σ a ci k then some (σ.2.2.1 a k) else none
def hb_getR (σ : hb_M) (a ci k : Nat) : Option Nat := if hb_isO σ a ci k then σ.2.2.2 a k else none
def hb_putI (σ : hb_M) (a ci k : Nat) (x : Int32) : Option hb_M := if hb_isO σ a ci k then some (hb_setI σ a k x) else none
def hb_putZ (σ : hb_M) (a ci k : Nat) (x : Int32) : Option hb_M := if hb_isO σ a ci k && (x == 0 || x == 1) then some (hb_setI σ a k x) else none
def hb_putL (σ : hb_M) (a ci k : Nat) (x : Int64) : Option hb_M := if hb_isO σ a ci k then some (hb_setL σ a k x) else none
def hb_putR (σ : hb_M) (a ci k b : Nat) : Option hb_M := if hb_isO σ a ci k then some (hb_setR σ a k b) else none
def hb_newA (σ : hb_M) (κ : Nat) (n : Int32) : Option (Nat × hb_M) := if n < 0 ∨ 10000 < n.toNatClampNeg then none else some (σ.1.length, hb_new σ κ n.toNatClampNeg)
def hb_newO (σ : hb_M) (ci n : Nat) : Option (Nat × hb_M) := some (σ.1.length, hb_new σ (ci + 4) n)
def hb_copy (σ : hb_M) (a : Nat) (sp : Int32) (b : Nat) (dp n : Int32) : Option hb_M := match σ.1[a]?, σ.1[b]? with
  | some (0, n0), some (0, n1) => if sp < 0 ∨ dp < 0 ∨ n < 0 ∨ n0 < sp.toNatClampNeg + n.toNatClampNeg ∨ n1 < dp.toNatClampNeg + n.toNatClampNeg then none else some (σ.1, va_up σ.2.1 b (va_cpy (σ.2.1 a) (σ.2.1 b) sp.toNatClampNeg dp.toNatClampNeg n.toNatClampNeg), σ.2.2)
  | _, _ => none
theorem hb_isO_at {σ : hb_M} {a ci k : Nat} (h : hb_isO σ a ci k = true) : ∃ n, σ.1[a]? = some (ci + 4, n) ∧ k < n := by
  unfold hb_isO at h
  split at h
  · next q n hq =>
    simp only [Bool.and_eq_true, decide_eq_true_eq] at h
    exact ⟨n, by rw [hq, h.1], h.2⟩
  · cases h
theorem hb_cellO (G : hb_G) (σ : hb_M) (a ci n : Nat) : hb_cell G σ a (ci + 4, n) = .inr (ci, (List.range n).map (fun k => hb_fv G σ a k (hb_ty ci k))) := rfl
theorem hb_up_ne {α : Type} {f : Nat → α} {a b : Nat} {x : α} (h : b ≠ a) : va_up f a x b = f b := by simp [va_up, h]
theorem hb_up_eq {α : Type} {f : Nat → α} {a : Nat} {x : α} : va_up f a x a = x := by simp [va_up]
theorem hb_cell_same {G : hb_G} {σ σ' : hb_M} {b : Nat} (h1 : σ'.2.1 b = σ.2.1 b) (h2 : σ'.2.2.1 b = σ.2.2.1 b) (h3 : σ'.2.2.2 b = σ.2.2.2 b) (q : Nat × Nat) : hb_cell G σ' b q = hb_cell G σ b q := by
  obtain ⟨κ, n⟩ := q
  match κ with
  | 0 => simp [hb_cell, h1]
  | 1 => simp [hb_cell, h2]
  | 2 => simp [hb_cell, h1]
  | 3 => simp [hb_cell, h3]
  | ci + 4 =>
    rw [hb_cellO, hb_cellO]
    congr 3
    funext k
    simp [hb_fv, h1, h2, h3]
theorem hb_wsI {G : hb_G} {σ : hb_M} {a j : Nat} {x : Int32} {q : Nat × Nat} {e : va_E} (h : σ.1[a]? = some q) (he : hb_cell G (hb_setI σ a j x) a q = e) : (hb_ws G σ).set a (hb_base G + a, e) = hb_ws G (hb_setI σ a j x) :=
  hb_ws_set h rfl he (fun b hb q => hb_cell_same (σ := σ) (σ' := hb_setI σ a j x) (by simp [hb_setI, hb_up_ne hb]) rfl rfl q)
theorem hb_wsL {G : hb_G} {σ : hb_M} {a j : Nat} {x : Int64} {q : Nat × Nat} {e : va_E} (h : σ.1[a]? = some q) (he : hb_cell G (hb_setL σ a j x) a q = e) : (hb_ws G σ).set a (hb_base G + a, e) = hb_ws G (hb_setL σ a j x) :=
  hb_ws_set h rfl he (fun b hb q => hb_cell_same (σ := σ) (σ' := hb_setL σ a j x) rfl (by simp [hb_setL, hb_up_ne hb]) rfl q)
theorem hb_wsR {G : hb_G} {σ : hb_M} {a j y : Nat} {q : Nat × Nat} {e : va_E} (h : σ.1[a]? = some q) (he : hb_cell G (hb_setR σ a j y) a q = e) : (hb_ws G σ).set a (hb_base G + a, e) = hb_ws G (hb_setR σ a j y) :=
  hb_ws_set h rfl he (fun b hb q => hb_cell_same (σ := σ) (σ' := hb_setR σ a j y) rfl rfl (by simp [hb_setR, hb_up_ne hb]) q)
/-- a field's link, by the class's own words or a nest mate's -/
def hb_lkF (own : String) (idx ci k : Nat) : Prop := ∃ (C : String) (T : u_T) (N : Nat), vwCl[ci]? = some (C, T, N) ∧ k < N ∧ (T k).1 = C ∧ (Cond.fieldLink own idx C (T k).2.1 (T k).2.2.1 ∈ hb_wl ∨ Cond.fieldLinkNest own idx C (T k).2.1 (T k).2.2.1 "HeapBrowser" ∈ hb_nw)
section HSM
variable {G : hb_G} {l : Launch} {z : Bool} {μ : hb_Y} {d rc rs pc pc' : Nat} {lv lv' : List (Nat × Value)} {st st' : List Value} {σ σ' : hb_M} {res : hb_R}
/-- a getfield, of any type -/
theorem hs_getV {a idx ci k n : Nat} {v : Value} (hd : decode μ.2.1 pc = .ok (.getfield idx, 3)) (hk : hb_lkF μ.1.cls idx ci k) (hq : σ.1[a]? = some (ci + 4, n)) (hn : k < n) (hv : hb_fv G σ a k (hb_ty ci k) = hb_tr G v) (h : hb_T G l z μ d rc rs (pc + 3) lv (v :: st) σ res) : hb_T G l z μ d rc rs pc lv (.ref a :: st) σ res := by
  intro p e R s m args below meth c Q hC h1 h2 e1 e2 H locs cells slots ls hc hs hD hl
  have kk := h p e R s m args below meth c Q hC h1 h2 e1 e2 H locs cells slots ls hc hs hD hl
  obtain ⟨C, T, N, hcl, hkN, hT1, hlk⟩ := hk
  obtain ⟨hin, -, -⟩ := hb_cl hcl
  have he := hb_ws_at (G := G) hq
  rw [hb_cellO] at he
  have hfs : ((List.range n).map (fun k => hb_fv G σ a k (hb_ty ci k)))[k]? = some (hb_tr G v) := by
    rw [List.getElem?_map, List.getElem?_range hn, Option.map_some, hv]
  have hsame : ∀ x, s.fieldFound? (T k).1 (T k).2.1 (T k).2.2.1 = some x → s.fieldFound? C (T k).2.1 (T k).2.2.1 = some x := fun x h => by rw [hT1] at h; exact h
  rcases hlk with hlk | hlk
  · exact va_get hC.1 hC.2.1 hC.2.2.2.2.1 hin hC.2.2.2.1 hC.2.2.2.2.2.2.1 hD.1 a he hcl k hkN (hC.2.2.2.2.1 _ hlk) hsame hfs hd kk
  · exact va_getN hC.1 hC.2.1 hC.2.2.2.2.1 hin hC.2.2.2.1 hC.2.2.2.2.2.2.1 hD.1 a he hcl k hkN (va_Nw.use rfl (hC.2.2.2.2.2.2.2.1 _ hlk)) hsame hfs hd kk
theorem hs_getI {a idx ci k : Nat} {x : Int32} (hd : decode μ.2.1 pc = .ok (.getfield idx, 3)) (hk : hb_lkF μ.1.cls idx ci k) (ht : hb_ty ci k = 0) (hv : hb_getI σ a ci k = some x) (h : hb_T G l z μ d rc rs (pc + 3) lv (.int x :: st) σ res) : hb_T G l z μ d rc rs pc lv (.ref a :: st) σ res := by
  unfold hb_getI at hv
  split at hv
  · next h9 =>
    obtain ⟨n, hq, hn⟩ := hb_isO_at h9
    cases hv
    exact hs_getV hd hk hq hn (by rw [ht]; rfl) h
  · cases hv
theorem hs_getL {a idx ci k : Nat} {x : Int64} (hd : decode μ.2.1 pc = .ok (.getfield idx, 3)) (hk : hb_lkF μ.1.cls idx ci k) (ht : hb_ty ci k = 1) (hv : hb_getL σ a ci k = some x) (h : hb_T G l z μ d rc rs (pc + 3) lv (.long x :: st) σ res) : hb_T G l z μ d rc rs pc lv (.ref a :: st) σ res := by
  unfold hb_getL at hv
  split at hv
  · next h9 =>
    obtain ⟨n, hq, hn⟩ := hb_isO_at h9
    cases hv
    exact hs_getV hd hk hq hn (by rw [ht]; rfl) h
  · cases hv
theorem hs_getR {a idx ci k b : Nat} (hd : decode μ.2.1 pc = .ok (.getfield idx, 3)) (hk : hb_lkF μ.1.cls idx ci k) (ht : hb_ty ci k = 2) (hv : hb_getR σ a ci k = some b) (h : hb_T G l z μ d rc rs (pc + 3) lv (.ref b :: st) σ res) : hb_T G l z μ d rc rs pc lv (.ref a :: st) σ res := by
  unfold hb_getR at hv
  split at hv
  · next h9 =>
    obtain ⟨n, hq, hn⟩ := hb_isO_at h9
    exact hs_getV hd hk hq hn (by rw [ht]; simp [hb_fv, hv, hb_rf, va_rf, hb_tr]) h
  · cases hv
end HSM
