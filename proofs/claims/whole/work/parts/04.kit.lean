/-! THE SMALL MACHINE: one world for all: a row of kinds, ints, longs, references by address and place; a ref k stands for the cell at base + k -/
def hb_wl : List Cond := lw_tbl.filter goodWord
theorem hb_w0 {w : Cond} (h : w ∈ lw_tbl) (hg : goodWord w = true) : w ∈ hb_wl := List.mem_filter.mpr ⟨h, hg⟩
theorem hb_w {w : Cond} (i : Nat) (h : tables_1[i]? = some w) (hg : goodWord w = true) : w ∈ hb_wl := hb_w0 (List.mem_append_right _ (List.mem_of_getElem? h)) hg
theorem hb_wp {q : MethodName × Nat} (i : Nat) (h : lw_privs[i]? = some q) (hg : goodWord (.selects q.1.cls q.1 q.1) = true) : Cond.selects q.1.cls q.1 q.1 ∈ hb_wl := hb_w0 (List.mem_append_left _ (List.mem_map.mpr ⟨q, List.mem_of_getElem? h, rfl⟩)) hg
theorem hb_wl_good : ∀ w ∈ hb_wl, goodWord w = true := fun w h => (List.mem_filter.mp h).2
abbrev hb_M : Type := List (Nat × Nat) × (Nat → Nat → Int32) × (Nat → Nat → Int64) × (Nat → Nat → Option Nat)
abbrev hb_G : Type := (Nat → ClassId) × (Nat → Nat → Nat) × (Nat → ClassId) × (Nat → Nat) × Nat × (Nat → Int32)
abbrev hb_R : Type := (Option Value ⊕ String) × hb_M
abbrev hb_Y : Type := MethodName × ByteArray × Nat × Option FieldType × List (Nat × Nat × Nat × Nat) × Bool
def hb_base (G : hb_G) : Nat := G.2.2.2.1 0
def hb_A (G : hb_G) : Nat → Prop := fun q => hb_base G ≤ q
def hb_tr (G : hb_G) : Value → Value
  | .ref a => .ref (hb_base G + a)
  | .retAddr k => .ref (G.2.2.2.1 (k + 1))
  | v => v
def hb_tl (G : hb_G) (q : Nat × Value) : Nat × Value := (q.1, hb_tr G q.2)
theorem hb_tr_cat (G : hb_G) (v : Value) : (hb_tr G v).category = v.category := by cases v <;> rfl
def hb_tyX (ci : Nat) : Nat → FieldType := match ci with
  | 0 => tyX0 | 1 => tyX1 | 2 => tyX2 | 3 => tyX3 | 4 => tyX4 | 5 => tyX5 | 6 => tyX6 | 7 => tyX7 | 8 => tyX8 | _ => tyX9
def hb_tyc : FieldType → Nat
  | .long => 1
  | .object _ => 2
  | .array _ => 2
  | _ => 0
def hb_ty (ci k : Nat) : Nat := hb_tyc (hb_tyX ci k)
def hb_rf (G : hb_G) (r : Option Nat) : Option Nat := r.map (fun a => hb_base G + a)
def hb_fv (G : hb_G) (σ : hb_M) (a k t : Nat) : Value := match t with
  | 0 => .int (σ.2.1 a k)
  | 1 => .long (σ.2.2.1 a k)
  | _ => va_rf (hb_rf G (σ.2.2.2 a k))
def hb_cell (G : hb_G) (σ : hb_M) (a : Nat) (q : Nat × Nat) : va_E := match q.1 with
  | 0 => .inl (G.2.2.1 0, q.2, .inl (σ.2.1 a))
  | 1 => .inl (G.2.2.1 1, q.2, .inr (.inl (σ.2.2.1 a)))
  | 2 => .inl (G.2.2.1 2, q.2, .inl (σ.2.1 a))
  | 3 => .inl (G.2.2.1 3, q.2, .inr (.inr (.inr (.inr (fun j => hb_rf G (σ.2.2.2 a j))))))
  | ci + 4 => .inr (ci, (List.range q.2).map (fun k => hb_fv G σ a k (hb_ty ci k)))
def hb_ws (G : hb_G) (σ : hb_M) : va_W := σ.1.mapIdx (fun a q => (hb_base G + a, hb_cell G σ a q))
theorem hb_ws_at {G : hb_G} {σ : hb_M} {a : Nat} {q : Nat × Nat} (h : σ.1[a]? = some q) : (hb_ws G σ)[a]? = some (hb_base G + a, hb_cell G σ a q) := by
  simp [hb_ws, List.getElem?_mapIdx, h]
theorem hb_ws_len (G : hb_G) (σ : hb_M) : (hb_ws G σ).length = σ.1.length := by simp [hb_ws]
theorem hb_ws_set {G : hb_G} {σ σ' : hb_M} {a : Nat} {q : Nat × Nat} {e : va_E} (h : σ.1[a]? = some q) (h1 : σ'.1 = σ.1) (he : hb_cell G σ' a q = e) (ho : ∀ b, b ≠ a → ∀ q, hb_cell G σ' b q = hb_cell G σ b q) : (hb_ws G σ).set a (hb_base G + a, e) = hb_ws G σ' := by
  apply List.ext_getElem?
  intro i
  have hl : a < σ.1.length := (List.getElem?_eq_some_iff.mp h).1
  rw [List.getElem?_set]
  by_cases hi : a = i
  · subst hi
    rw [if_pos rfl, hb_ws_len, if_pos hl, hb_ws_at (q := q) (by rw [h1]; exact h), he]
  · rw [if_neg hi]
    simp only [hb_ws, List.getElem?_mapIdx, h1]
    cases σ.1[i]? with
    | none => rfl
    | some q2 => simp [ho i (fun z => hi z.symm) q2]
theorem hb_ws_app {G : hb_G} {σ σ' : hb_M} {q : Nat × Nat} {e : va_E} (h1 : σ'.1 = σ.1 ++ [q]) (he : hb_cell G σ' σ.1.length q = e) (ho : ∀ b, b ≠ σ.1.length → ∀ q, hb_cell G σ' b q = hb_cell G σ b q) : hb_ws G σ ++ [(hb_base G + σ.1.length, e)] = hb_ws G σ' := by
  unfold hb_ws
  rw [h1, List.mapIdx_append, ← he]
  congr 1
  · apply List.ext_getElem?
    intro i
    simp only [List.getElem?_mapIdx]
    cases hx : σ.1[i]? with
    | none => rfl
    | some q2 =>
      have hl : i < σ.1.length := (List.getElem?_eq_some_iff.mp hx).1
      simp [ho i (by omega) q2]
  · simp
theorem hb_ws_D (G : hb_G) (σ : hb_M) : va_D (hb_A G) (hb_ws G σ) := by
  have key : ∀ (i : Nat) (x : Nat × va_E), (hb_ws G σ)[i]? = some x → x.1 = hb_base G + i := by
    intro i x hx
    simp only [hb_ws, List.getElem?_mapIdx] at hx
    cases h : σ.1[i]? with
    | none => rw [h] at hx; cases hx
    | some q => rw [h] at hx; cases hx; rfl
  refine ⟨fun i j x y hi hj hxy => ?_, fun k x hx => ?_⟩
  · have h1 := key i x hi
    have h2 := key j y hj
    omega
  · rw [key k x hx]
    exact Nat.le_add_right _ _
def hb_tys (G : hb_G) : List (ClassId × FieldType) := [(G.2.2.1 0, .int), (G.2.2.1 1, .long), (G.2.2.1 2, .boolean), (G.2.2.1 3, .object RX4)]
/-- what the heap holds: the world; and, as long as the world isn't sealed, where the next cell comes, with the cells counted -/
def hb_D (G : hb_G) (z : Bool) (σ : hb_M) (s : State) (H : Heap) (locs : List Loc) (cells rc : Nat) (R : Room) : Prop :=
  va_P (G.1, G.2.1) vwCl (hb_ws G σ) H ∧ va_S (hb_A G) s.heap H locs ∧ (z = false → H.size = hb_base G + σ.1.length ∧ s.heap.size + cells = H.size ∧ cells + rc = R.cells)
/-! nest mates' links -/
def hb_nF : List (String × Nat × String × String × String × String) := [("HeapBrowser", 84, "HeapBrowser$Heap", "classCount", "I", "HeapBrowser"), ("HeapBrowser$Draw", 70, "HeapBrowser$Heap", "classCount", "I", "HeapBrowser"), ("HeapBrowser$Filter", 141, "HeapBrowser$Heap", "group", "[I", "HeapBrowser"), ("HeapBrowser", 149, "HeapBrowser$Heap", "group", "[I", "HeapBrowser"), ("HeapBrowser$Filter", 116, "HeapBrowser$Heap", "size", "[I", "HeapBrowser"), ("HeapBrowser", 354, "HeapBrowser$Heap", "slotCount", "[I", "HeapBrowser"), ("HeapBrowser$Filter", 138, "HeapBrowser$Heap", "age", "[I", "HeapBrowser"), ("HeapBrowser$Commands", 119, "HeapBrowser$Heap", "roots", "[I", "HeapBrowser"), ("HeapBrowser", 156, "HeapBrowser$Heap", "roots", "[I", "HeapBrowser"), ("HeapBrowser$Analysis", 55, "HeapBrowser$Heap", "version", "I", "HeapBrowser"), ("HeapBrowser$Analysis", 112, "HeapBrowser$Search", "order", "[I", "HeapBrowser"), ("HeapBrowser$Filter", 127, "HeapBrowser$Search", "steps", "[I", "HeapBrowser"), ("HeapBrowser", 193, "HeapBrowser$Search", "steps", "[I", "HeapBrowser"), ("HeapBrowser$Analysis", 109, "HeapBrowser$Search", "count", "I", "HeapBrowser"), ("HeapBrowser$Analysis", 72, "HeapBrowser$Search", "found", "J", "HeapBrowser"), ("HeapBrowser", 251, "HeapBrowser$Search", "found", "J", "HeapBrowser"), ("HeapBrowser$Filter", 123, "HeapBrowser$Analysis", "search", "LHeapBrowser$Search;", "HeapBrowser"), ("HeapBrowser", 189, "HeapBrowser$Analysis", "search", "LHeapBrowser$Search;", "HeapBrowser"), ("HeapBrowser", 201, "HeapBrowser$Analysis", "dominators", "[J", "HeapBrowser"), ("HeapBrowser", 209, "HeapBrowser$Analysis", "immediate", "[I", "HeapBrowser"), ("HeapBrowser$Filter", 120, "HeapBrowser$Analysis", "retained", "[I", "HeapBrowser"), ("HeapBrowser", 226, "HeapBrowser$Analysis", "retained", "[I", "HeapBrowser"), ("HeapBrowser$Filter", 132, "HeapBrowser$Analysis", "incoming", "[I", "HeapBrowser"), ("HeapBrowser", 177, "HeapBrowser$Analysis", "incoming", "[I", "HeapBrowser"), ("HeapBrowser$Filter", 135, "HeapBrowser$Analysis", "outgoing", "[I", "HeapBrowser"), ("HeapBrowser", 174, "HeapBrowser$Analysis", "outgoing", "[I", "HeapBrowser"), ("HeapBrowser", 232, "HeapBrowser$Analysis", "components", "[I", "HeapBrowser"), ("HeapBrowser", 265, "HeapBrowser$Analysis", "reachableSize", "I", "HeapBrowser"), ("HeapBrowser", 337, "HeapBrowser$History", "count", "I", "HeapBrowser"), ("HeapBrowser", 285, "HeapBrowser$Text", "length", "I", "HeapBrowser"), ("HeapBrowser", 299, "HeapBrowser$Text", "at", "I", "HeapBrowser"), ("HeapBrowser$Commands", 45, "HeapBrowser$Text", "failed", "Z", "HeapBrowser"), ("HeapBrowser$Filter", 98, "HeapBrowser$Text", "failed", "Z", "HeapBrowser"), ("HeapBrowser", 295, "HeapBrowser$Text", "failed", "Z", "HeapBrowser"), ("HeapBrowser", 321, "HeapBrowser$Commands", "count", "I", "HeapBrowser")]
def hb_nM : List (String × Nat × MethodName × String) := [("HeapBrowser$Analysis", 11, ⟨"HeapBrowser$Search", "<init>", "()V"⟩, "HeapBrowser"), ("HeapBrowser", 34, ⟨"HeapBrowser$Text", "<init>", "()V"⟩, "HeapBrowser"), ("HeapBrowser", 57, ⟨"HeapBrowser$Draw", "<init>", "()V"⟩, "HeapBrowser"), ("HeapBrowser$Heap", 137, ⟨"HeapBrowser", "member", "(I)J"⟩, "HeapBrowser"), ("HeapBrowser$Search", 45, ⟨"HeapBrowser", "member", "(I)J"⟩, "HeapBrowser"), ("HeapBrowser$Heap", 118, ⟨"HeapBrowser", "contains", "(JI)Z"⟩, "HeapBrowser"), ("HeapBrowser$Analysis", 101, ⟨"HeapBrowser", "contains", "(JI)Z"⟩, "HeapBrowser"), ("HeapBrowser$Analysis", 105, ⟨"HeapBrowser", "member", "(I)J"⟩, "HeapBrowser"), ("HeapBrowser$Filter", 113, ⟨"HeapBrowser", "member", "(I)J"⟩, "HeapBrowser"), ("HeapBrowser$Heap", 82, ⟨"HeapBrowser", "problemOf", "(ZII)I"⟩, "HeapBrowser"), ("HeapBrowser$Draw", 47, ⟨"HeapBrowser", "memberAt", "(JI)I"⟩, "HeapBrowser")]
def hb_nw : List Cond := hb_nF.map (fun q => .fieldLinkNest q.1 q.2.1 q.2.2.1 q.2.2.2.1 q.2.2.2.2.1 q.2.2.2.2.2) ++ hb_nM.map (fun q => .methodLinkNest q.1 q.2.1 q.2.2.1 q.2.2.2)
/-- the String constants: owner, entry, text, number; lengths and bytes -/
def hb_str : List (String × Nat × String × Nat) := [("HeapBrowser$Filter", 90, "srdioang", 0), ("HeapBrowser$Filter", 96, "<=>", 1), ("HeapBrowser$Commands", 56, "nawcs+-", 2)]
def hb_slen : List Nat := [8, 3, 7]
def hb_sbyt : List (List Int32) := [[115, 114, 100, 105, 111, 97, 110, 103], [60, 61, 62], [110, 97, 119, 99, 115, 43, 45]]
def hb_xw : List Cond := [.declares ⟨"java/lang/RuntimeException", "<init>", "()V"⟩, .declares ⟨"java/lang/Exception", "<init>", "()V"⟩, .declares ⟨"java/lang/Throwable", "<init>", "()V"⟩, .castable "java/lang/IndexOutOfBoundsException" "java/lang/IndexOutOfBoundsException", .castable "java/lang/IllegalArgumentException" "java/lang/IllegalArgumentException", .castable "java/lang/IllegalStateException" "java/lang/IllegalStateException"]
theorem hb_xw_ok : ∀ w ∈ hb_xw, w.onTables = true ∧ w.keepsFace = true := by decide +kernel
def hb_nc : List (String × String) := [("java/lang/IndexOutOfBoundsException", "java/lang/IllegalArgumentException"), ("java/lang/IndexOutOfBoundsException", "java/lang/IllegalStateException"), ("java/lang/IllegalArgumentException", "java/lang/IndexOutOfBoundsException"), ("java/lang/IllegalArgumentException", "java/lang/IllegalStateException"), ("java/lang/IllegalStateException", "java/lang/IndexOutOfBoundsException"), ("java/lang/IllegalStateException", "java/lang/IllegalArgumentException")]
def hb_KS (G : hb_G) (U : State) : Prop := (∀ q ∈ hb_str, vk_R q.1 q.2.1 q.2.2.1 (G.2.2.2.1 (q.2.2.2 + 2)) U) ∧ vk_S 3 hb_slen hb_sbyt (fun i => G.2.2.2.1 (i + 2)) (fun i => G.2.2.2.1 (i + 12)) (hb_A G) U U.heap ∧ va_Z "java/lang/String" "COMPACT_STRINGS" "Z" (.int 1) (hb_A G) U U.heap ∧ va_X (G.2.2.2.1 1) G.2.2.2.2.1 G.2.2.2.2.2 U U.heap ∧ G.2.2.2.1 1 < hb_base G ∧ (∀ w ∈ hb_xw, va_Nw w U) ∧ (∀ q ∈ hb_nc, va_Nc q.1 q.2 U)
theorem hb_KS_go {G : hb_G} {s U : State} {H : Heap} {locs : List Loc} (h : hb_KS G s) (hS : va_S (hb_A G) s.heap H locs) (hz : hb_base G ≤ s.heap.size) (hU : U.heap = H) (hW : s.WarmedH U.vm) : hb_KS G U := by
  obtain ⟨h1, h2, h3, h4, h5, h6, h7⟩ := h
  refine ⟨fun q hq => vk_R.warm hW (h1 q hq), ?_, ?_, ?_, h5, fun w hw => va_tabs (hb_xw_ok w hw).1 (rfl : (s.setVm U.vm).vm = U.vm) (Cond.before_shiftedFace (State.Shifted.of_warmed hW) w (hb_xw_ok w hw).2 (h6 w hw)), fun q hq => va_Nc.moved hW.alike (h7 q hq)⟩
  · rw [hU]
    exact vk_S.moved hW.alike (vk_S.kept h2 hS.2.1)
  · rw [hU]
    exact va_Z.moved hW.alike (va_Z.kept h3 hS.2.1)
  · rw [hU]
    exact va_X.moved hW.alike (va_X.kept h4 (hS.2.1 _ (Nat.lt_of_lt_of_le h5 hz) (Nat.not_le.mpr h5)))
theorem hb_KS_same {G : hb_G} {s U : State} (h : hb_KS G s) (hU : U.heap = s.heap) (hv : s.vm = U.vm) : hb_KS G U := by
  obtain ⟨h1, h2, h3, h4, h5, h6, h7⟩ := h
  have ha : s.vm.Alike U.vm := by rw [hv]; exact Vm.Alike.refl U.vm
  refine ⟨fun q hq => vk_R.same hv.symm (h1 q hq), ?_, ?_, ?_, h5, fun w hw => va_Nw.same (hb_xw_ok w hw).1 hv (h6 w hw), fun q hq => va_Nc.moved ha (h7 q hq)⟩
  · rw [hU]
    exact vk_S.moved ha h2
  · rw [hU]
    exact va_Z.moved ha h3
  · rw [hU]
    exact va_X.moved ha h4
/-- what the tables and the still part of the heap say, at a state -/
def hb_K (G : hb_G) (U : State) : Prop :=
  va_K (G.1, G.2.1) vwCl (hb_tys G) U ∧ (∀ w ∈ hb_nw, va_Nw w U) ∧ vx_Zq Bundle.tN "UNASSIGNED_STACK" Bundle.steD (hb_A G) U U.heap ∧ vx_Zq Bundle.tN "SUPPRESSED_SENTINEL" Bundle.listD (hb_A G) U U.heap ∧ hb_base G ≤ U.heap.size ∧ va_AO RX4 U ∧ hb_KS G U
theorem hb_nw_warm {s U : State} (hW : s.WarmedH U.vm) (h : ∀ w ∈ hb_nw, va_Nw w s) : ∀ w ∈ hb_nw, va_Nw w U := by
  intro w hw
  have h1 := h w hw
  rcases List.mem_append.mp hw with hw | hw
  · obtain ⟨q, -, rfl⟩ := List.mem_map.mp hw
    exact va_Nw.warmF hW h1
  · obtain ⟨q, -, rfl⟩ := List.mem_map.mp hw
    exact va_Nw.warmM hW h1
theorem hb_K_go {G : hb_G} {s U : State} {H : Heap} {locs : List Loc} (h : hb_K G s) (hS : va_S (hb_A G) s.heap H locs) (hU : U.heap = H) (hW : s.WarmedH U.vm) : hb_K G U := by
  obtain ⟨h1, h2, h3, h4, h5, h7, h8⟩ := h
  refine ⟨va_K.moved hW.alike h1, hb_nw_warm hW h2, ?_, ?_, ?_, va_AO.moved hW.alike h7, hb_KS_go h8 hS h5 hU hW⟩
  · rw [hU]
    exact vx_Zq.moved hW.alike (vx_Zq.kept h3 hS.2.1)
  · rw [hU]
    exact vx_Zq.moved hW.alike (vx_Zq.kept h4 hS.2.1)
  · rw [hU]
    exact Nat.le_trans h5 hS.1
theorem hb_K_same {G : hb_G} {s U : State} (h : hb_K G s) (hU : U.heap = s.heap) (hv : s.vm = U.vm) : hb_K G U := by
  obtain ⟨h1, h2, h3, h4, h5, h7, h8⟩ := h
  have ha : s.vm.Alike U.vm := by rw [hv]; exact Vm.Alike.refl U.vm
  refine ⟨va_K.moved ha h1, fun w hw => ?_, ?_, ?_, by rw [hU]; exact h5, va_AO.moved ha h7, hb_KS_same h8 hU hv⟩
  · have h6 := h2 w hw
    rcases List.mem_append.mp hw with hw | hw
    · obtain ⟨q, -, rfl⟩ := List.mem_map.mp hw
      exact va_Nw.same rfl hv h6
    · obtain ⟨q, -, rfl⟩ := List.mem_map.mp hw
      exact va_Nw.same rfl hv h6
  · rw [hU]
    exact vx_Zq.moved ha h3
  · rw [hU]
    exact vx_Zq.moved ha h4
/-- a method's fixed surroundings -/
def hb_C (G : hb_G) (μ : hb_Y) (p : Program) (s : State) (m : MethodId) (args : Array Value) (meth : Method) (c : Code) : Prop :=
  p.tables.exec = Jvm.exec ∧ c.code = μ.2.1 ∧ c.maxLocals = μ.2.2.1 ∧ s.vm.findClass μ.1.cls = some m.cls ∧ (∀ w ∈ hb_wl, w.before args s = true) ∧ (μ.2.2.2.2.2 = false → meth.name = μ.1.name ∧ c.exceptionTable.toList = tableOf μ.2.2.2.2.1) ∧ hb_K G s
def hb_ret (cc : ByteArray) (ret : Option FieldType) (pc : Nat) (v : Option Value) : Prop := match v with
  | none => decode cc pc = .ok (.return_, 1) ∧ ret = none
  | some (.int x) => decode cc pc = .ok (.ireturn, 1) ∧ ∃ ty, ret = some ty ∧ narrow ty (.int x) = .int x
  | some (.long _) => decode cc pc = .ok (.lreturn, 1) ∧ ret = some .long
  | some (.ref _) => decode cc pc = .ok (.areturn, 1) ∧ ∃ n, ret = some (.object n)
  | _ => False
def hb_E1 (G : hb_G) (l : Launch) (μ : hb_Y) (z : Bool) (res : hb_R) (p : Program) (e : Env) (R : Room) (s : State) (m : MethodId) (args : Array Value) (below : List Frame) (meth : Method) (c : Code) (Q : State → Prop) : Prop :=
  ∀ v, res.1 = .inl v → ∀ (H : Heap) (locs : List Loc) (cells slots pc : Nat) (ls : Array Slot), cells ≤ R.cells → slots ≤ R.slots → hb_D G (μ.2.2.2.2.2 || z) res.2 s H locs cells 0 R → hb_ret μ.2.1 μ.2.2.2.1 pc v → W p l e R s m args below meth c H locs cells slots Q (F0 m pc ls (v.toList.map (hb_tr G)))
def hb_E2 (G : hb_G) (l : Launch) (z : Bool) (res : hb_R) (p : Program) (e : Env) (R : Room) (s : State) (m : MethodId) (args : Array Value) (below : List Frame) (meth : Method) (c : Code) (Q : State → Prop) : Prop :=
  ∀ E, res.1 = .inr E → ∀ (H : Heap) (locs : List Loc) (cells slots pc : Nat) (ls : Array Slot) (rest : List Value) (q : Addr) (ce : Cell), cells ≤ R.cells → slots ≤ R.slots → va_P (G.1, G.2.1) vwCl (hb_ws G res.2) H → va_S (hb_A G) s.heap H locs → z = true → H[q]? = some ce → ce.vm = .none → s.vm.findClass E = some ce.cls → vx_W p l e R s m args below meth c H locs cells slots Q (F0 m pc ls rest) q
/-- from this point of the method, with these locals, stack and world, and cells rc of slots rs to spare, the method ends so -/
def hb_T (G : hb_G) (l : Launch) (z : Bool) (μ : hb_Y) (d rc rs pc : Nat) (lv : List (Nat × Value)) (st : List Value) (σ : hb_M) (res : hb_R) : Prop :=
  ∀ (p : Program) (e : Env) (R : Room) (s : State) (m : MethodId) (args : Array Value) (below : List Frame) (meth : Method) (c : Code) (Q : State → Prop),
    hb_C G μ p s m args meth c → d + 8 ≤ R.frames → 100 * d + 200 ≤ R.locals → hb_E1 G l μ z res p e R s m args below meth c Q → hb_E2 G l z res p e R s m args below meth c Q →
    ∀ (H : Heap) (locs : List Loc) (cells slots : Nat) (ls : Array Slot), cells + rc ≤ R.cells → slots + rs ≤ R.slots → hb_D G z σ s H locs cells rc R → lv_has ls μ.2.2.1 (lv.map (hb_tl G)) →
      W p l e R s m args below meth c H locs cells slots Q (F0 m pc ls (st.map (hb_tr G)))
section HS
variable {G : hb_G} {l : Launch} {z : Bool} {μ : hb_Y} {d rc rs pc pc' : Nat} {lv lv' : List (Nat × Value)} {st st' : List Value} {σ σ' : hb_M} {res : hb_R}
/-- an instruction that only moves the frame -/
theorem hb_lift (k : ∀ (p : Program) (e : Env) (R : Room) (s : State) (m : MethodId) (args : Array Value) (below : List Frame) (meth : Method) (c : Code) (Q : State → Prop) (H : Heap) (locs : List Loc) (cells slots : Nat) (ls : Array Slot), hb_C G μ p s m args meth c → lv_has ls μ.2.2.1 (lv.map (hb_tl G)) →
      W p l e R s m args below meth c H locs cells slots Q (F0 m pc' ls (st'.map (hb_tr G))) → W p l e R s m args below meth c H locs cells slots Q (F0 m pc ls (st.map (hb_tr G))))
    (h : hb_T G l z μ d rc rs pc' lv st' σ res) : hb_T G l z μ d rc rs pc lv st σ res := by
  intro p e R s m args below meth c Q hC h1 h2 e1 e2 H locs cells slots ls hc hs hD hl
  exact k p e R s m args below meth c Q H locs cells slots ls hC hl (h p e R s m args below meth c Q hC h1 h2 e1 e2 H locs cells slots ls hc hs hD hl)
theorem hb_lat {ls : Array Slot} {n k i : Nat} {v : Value} (h : lv_has ls n (lv.map (hb_tl G))) (hk : lv[k]? = some (i, v)) : ls[i]? = some (.val (hb_tr G v)) :=
  lv_at h k (by rw [List.getElem?_map, hk]; rfl)

theorem hs_iconst {n : Int} {v : Int32} (hd : decode μ.2.1 pc = .ok (.iconst n, 1)) (hv : Int32.ofInt n = v) (h : hb_T G l z μ d rc rs (pc + 1) lv (.int v :: st) σ res) : hb_T G l z μ d rc rs pc lv (st) σ res :=
  hb_lift (fun p e R s m args below meth c Q H locs cells slots ls hC hl k => lv_iconst hC.1 hC.2.1 hd hv k) h
theorem hs_bipush {n : Int} {v : Int32} (hd : decode μ.2.1 pc = .ok (.bipush n, 2)) (hv : (Int8.ofInt n).toInt32 = v) (h : hb_T G l z μ d rc rs (pc + 2) lv (.int v :: st) σ res) : hb_T G l z μ d rc rs pc lv (st) σ res :=
  hb_lift (fun p e R s m args below meth c Q H locs cells slots ls hC hl k => lv_bipush hC.1 hC.2.1 hd hv k) h
theorem hs_sipush {n : Int} {v : Int32} (hd : decode μ.2.1 pc = .ok (.sipush n, 3)) (hv : (Int16.ofInt n).toInt32 = v) (h : hb_T G l z μ d rc rs (pc + 3) lv (.int v :: st) σ res) : hb_T G l z μ d rc rs pc lv (st) σ res :=
  hb_lift (fun p e R s m args below meth c Q H locs cells slots ls hC hl k => lv_sipush hC.1 hC.2.1 hd hv k) h
theorem hs_lconst {n : Fin 2} {v : Int64} (hd : decode μ.2.1 pc = .ok (.lconst n, 1)) (hv : Int64.ofNat (n : Nat) = v) (h : hb_T G l z μ d rc rs (pc + 1) lv (.long v :: st) σ res) : hb_T G l z μ d rc rs pc lv (st) σ res :=
  hb_lift (fun p e R s m args below meth c Q H locs cells slots ls hC hl k => lv_lconst hC.1 hC.2.1 hd hv k) h
theorem hs_iload_n {n : Fin 4} {x : Int32} (hd : decode μ.2.1 pc = .ok (.iload_n n, 1)) (j : Nat) (hj : lv[j]? = some ((n : Nat), .int x)) (h : hb_T G l z μ d rc rs (pc + 1) lv (.int x :: st) σ res) : hb_T G l z μ d rc rs pc lv (st) σ res :=
  hb_lift (fun p e R s m args below meth c Q H locs cells slots ls hC hl k => lv_iload_n hC.1 hC.2.1 hd rfl (hb_lat hl hj) k) h
theorem hs_iload {i : Nat} {x : Int32} (hd : decode μ.2.1 pc = .ok (.iload i, 2)) (j : Nat) (hj : lv[j]? = some (i, .int x)) (h : hb_T G l z μ d rc rs (pc + 2) lv (.int x :: st) σ res) : hb_T G l z μ d rc rs pc lv (st) σ res :=
  hb_lift (fun p e R s m args below meth c Q H locs cells slots ls hC hl k => lv_iload hC.1 hC.2.1 hd (hb_lat hl hj) k) h
theorem hs_lload_n {n : Fin 4} {x : Int64} (hd : decode μ.2.1 pc = .ok (.lload_n n, 1)) (j : Nat) (hj : lv[j]? = some ((n : Nat), .long x)) (h : hb_T G l z μ d rc rs (pc + 1) lv (.long x :: st) σ res) : hb_T G l z μ d rc rs pc lv (st) σ res :=
  hb_lift (fun p e R s m args below meth c Q H locs cells slots ls hC hl k => lv_lload_n hC.1 hC.2.1 hd rfl (hb_lat hl hj) k) h
theorem hs_lload {i : Nat} {x : Int64} (hd : decode μ.2.1 pc = .ok (.lload i, 2)) (j : Nat) (hj : lv[j]? = some (i, .long x)) (h : hb_T G l z μ d rc rs (pc + 2) lv (.long x :: st) σ res) : hb_T G l z μ d rc rs pc lv (st) σ res :=
  hb_lift (fun p e R s m args below meth c Q H locs cells slots ls hC hl k => lv_lload hC.1 hC.2.1 hd (hb_lat hl hj) k) h
theorem hs_fload_n {n : Fin 4} {x : UInt32} (hd : decode μ.2.1 pc = .ok (.fload_n n, 1)) (j : Nat) (hj : lv[j]? = some ((n : Nat), .float x)) (h : hb_T G l z μ d rc rs (pc + 1) lv (.float x :: st) σ res) : hb_T G l z μ d rc rs pc lv (st) σ res :=
  hb_lift (fun p e R s m args below meth c Q H locs cells slots ls hC hl k => lv_fload_n hC.1 hC.2.1 hd rfl (hb_lat hl hj) k) h
theorem hs_fload {i : Nat} {x : UInt32} (hd : decode μ.2.1 pc = .ok (.fload i, 2)) (j : Nat) (hj : lv[j]? = some (i, .float x)) (h : hb_T G l z μ d rc rs (pc + 2) lv (.float x :: st) σ res) : hb_T G l z μ d rc rs pc lv (st) σ res :=
  hb_lift (fun p e R s m args below meth c Q H locs cells slots ls hC hl k => lv_fload hC.1 hC.2.1 hd (hb_lat hl hj) k) h
theorem hs_dload_n {n : Fin 4} {x : UInt64} (hd : decode μ.2.1 pc = .ok (.dload_n n, 1)) (j : Nat) (hj : lv[j]? = some ((n : Nat), .double x)) (h : hb_T G l z μ d rc rs (pc + 1) lv (.double x :: st) σ res) : hb_T G l z μ d rc rs pc lv (st) σ res :=
  hb_lift (fun p e R s m args below meth c Q H locs cells slots ls hC hl k => lv_dload_n hC.1 hC.2.1 hd rfl (hb_lat hl hj) k) h
theorem hs_dload {i : Nat} {x : UInt64} (hd : decode μ.2.1 pc = .ok (.dload i, 2)) (j : Nat) (hj : lv[j]? = some (i, .double x)) (h : hb_T G l z μ d rc rs (pc + 2) lv (.double x :: st) σ res) : hb_T G l z μ d rc rs pc lv (st) σ res :=
  hb_lift (fun p e R s m args below meth c Q H locs cells slots ls hC hl k => lv_dload hC.1 hC.2.1 hd (hb_lat hl hj) k) h
theorem hs_aload_n {n : Fin 4} {x : Nat} (hd : decode μ.2.1 pc = .ok (.aload_n n, 1)) (j : Nat) (hj : lv[j]? = some ((n : Nat), .ref x)) (h : hb_T G l z μ d rc rs (pc + 1) lv (.ref x :: st) σ res) : hb_T G l z μ d rc rs pc lv (st) σ res :=
  hb_lift (fun p e R s m args below meth c Q H locs cells slots ls hC hl k => lv_aload_n hC.1 hC.2.1 hd rfl (hb_lat hl hj) k) h
theorem hs_aload {i : Nat} {x : Nat} (hd : decode μ.2.1 pc = .ok (.aload i, 2)) (j : Nat) (hj : lv[j]? = some (i, .ref x)) (h : hb_T G l z μ d rc rs (pc + 2) lv (.ref x :: st) σ res) : hb_T G l z μ d rc rs pc lv (st) σ res :=
  hb_lift (fun p e R s m args below meth c Q H locs cells slots ls hC hl k => lv_aload hC.1 hC.2.1 hd (hb_lat hl hj) k) h
theorem hs_sload_n {n : Fin 4} {x : Nat} (hd : decode μ.2.1 pc = .ok (.aload_n n, 1)) (j : Nat) (hj : lv[j]? = some ((n : Nat), .retAddr x)) (h : hb_T G l z μ d rc rs (pc + 1) lv (.retAddr x :: st) σ res) : hb_T G l z μ d rc rs pc lv (st) σ res :=
  hb_lift (fun p e R s m args below meth c Q H locs cells slots ls hC hl k => lv_aload_n hC.1 hC.2.1 hd rfl (hb_lat hl hj) k) h
theorem hs_iadd {x y : Int32} (hd : decode μ.2.1 pc = .ok (.iadd, 1)) (h : hb_T G l z μ d rc rs (pc + 1) lv (.int (x + y) :: st) σ res) : hb_T G l z μ d rc rs pc lv (.int y :: .int x :: st) σ res :=
  hb_lift (fun p e R s m args below meth c Q H locs cells slots ls hC hl k => lv_iadd hC.1 hC.2.1 hd k) h
theorem hs_isub {x y : Int32} (hd : decode μ.2.1 pc = .ok (.isub, 1)) (h : hb_T G l z μ d rc rs (pc + 1) lv (.int (x - y) :: st) σ res) : hb_T G l z μ d rc rs pc lv (.int y :: .int x :: st) σ res :=
  hb_lift (fun p e R s m args below meth c Q H locs cells slots ls hC hl k => lv_isub hC.1 hC.2.1 hd k) h
theorem hs_imul {x y : Int32} (hd : decode μ.2.1 pc = .ok (.imul, 1)) (h : hb_T G l z μ d rc rs (pc + 1) lv (.int (x * y) :: st) σ res) : hb_T G l z μ d rc rs pc lv (.int y :: .int x :: st) σ res :=
  hb_lift (fun p e R s m args below meth c Q H locs cells slots ls hC hl k => lv_imul hC.1 hC.2.1 hd k) h
theorem hs_iand {x y : Int32} (hd : decode μ.2.1 pc = .ok (.iand, 1)) (h : hb_T G l z μ d rc rs (pc + 1) lv (.int (x &&& y) :: st) σ res) : hb_T G l z μ d rc rs pc lv (.int y :: .int x :: st) σ res :=
  hb_lift (fun p e R s m args below meth c Q H locs cells slots ls hC hl k => lv_iand hC.1 hC.2.1 hd k) h
theorem hs_ior {x y : Int32} (hd : decode μ.2.1 pc = .ok (.ior, 1)) (h : hb_T G l z μ d rc rs (pc + 1) lv (.int (x ||| y) :: st) σ res) : hb_T G l z μ d rc rs pc lv (.int y :: .int x :: st) σ res :=
  hb_lift (fun p e R s m args below meth c Q H locs cells slots ls hC hl k => lv_ior hC.1 hC.2.1 hd k) h
theorem hs_ixor {x y : Int32} (hd : decode μ.2.1 pc = .ok (.ixor, 1)) (h : hb_T G l z μ d rc rs (pc + 1) lv (.int (x ^^^ y) :: st) σ res) : hb_T G l z μ d rc rs pc lv (.int y :: .int x :: st) σ res :=
  hb_lift (fun p e R s m args below meth c Q H locs cells slots ls hC hl k => lv_ixor hC.1 hC.2.1 hd k) h
theorem hs_ishl {x y : Int32} (hd : decode μ.2.1 pc = .ok (.ishl, 1)) (h : hb_T G l z μ d rc rs (pc + 1) lv (.int (x <<< (y &&& 31)) :: st) σ res) : hb_T G l z μ d rc rs pc lv (.int y :: .int x :: st) σ res :=
  hb_lift (fun p e R s m args below meth c Q H locs cells slots ls hC hl k => lv_ishl hC.1 hC.2.1 hd k) h
theorem hs_ishr {x y : Int32} (hd : decode μ.2.1 pc = .ok (.ishr, 1)) (h : hb_T G l z μ d rc rs (pc + 1) lv (.int (x >>> (y &&& 31)) :: st) σ res) : hb_T G l z μ d rc rs pc lv (.int y :: .int x :: st) σ res :=
  hb_lift (fun p e R s m args below meth c Q H locs cells slots ls hC hl k => lv_ishr hC.1 hC.2.1 hd k) h
theorem hs_iushr {x y : Int32} (hd : decode μ.2.1 pc = .ok (.iushr, 1)) (h : hb_T G l z μ d rc rs (pc + 1) lv (.int ((x.toUInt32 >>> (y.toUInt32 &&& Int32.toUInt32 31)).toInt32) :: st) σ res) : hb_T G l z μ d rc rs pc lv (.int y :: .int x :: st) σ res :=
  hb_lift (fun p e R s m args below meth c Q H locs cells slots ls hC hl k => lv_iushr hC.1 hC.2.1 hd rfl k) h
theorem hs_idiv {x y : Int32} (hd : decode μ.2.1 pc = .ok (.idiv, 1)) (hy : ¬ y = 0) (h : hb_T G l z μ d rc rs (pc + 1) lv (.int (x / y) :: st) σ res) : hb_T G l z μ d rc rs pc lv (.int y :: .int x :: st) σ res :=
  hb_lift (fun p e R s m args below meth c Q H locs cells slots ls hC hl k => lv_idiv hC.1 hC.2.1 hd hy k) h
theorem hs_irem {x y : Int32} (hd : decode μ.2.1 pc = .ok (.irem, 1)) (hy : ¬ y = 0) (h : hb_T G l z μ d rc rs (pc + 1) lv (.int (x - x / y * y) :: st) σ res) : hb_T G l z μ d rc rs pc lv (.int y :: .int x :: st) σ res :=
  hb_lift (fun p e R s m args below meth c Q H locs cells slots ls hC hl k => lv_irem hC.1 hC.2.1 hd hy k) h
theorem hs_ineg {x : Int32} (hd : decode μ.2.1 pc = .ok (.ineg, 1)) (h : hb_T G l z μ d rc rs (pc + 1) lv (.int (-x) :: st) σ res) : hb_T G l z μ d rc rs pc lv (.int x :: st) σ res :=
  hb_lift (fun p e R s m args below meth c Q H locs cells slots ls hC hl k => lv_ineg hC.1 hC.2.1 hd k) h
theorem hs_ladd {x y : Int64} (hd : decode μ.2.1 pc = .ok (.ladd, 1)) (h : hb_T G l z μ d rc rs (pc + 1) lv (.long (x + y) :: st) σ res) : hb_T G l z μ d rc rs pc lv (.long y :: .long x :: st) σ res :=
  hb_lift (fun p e R s m args below meth c Q H locs cells slots ls hC hl k => lv_ladd hC.1 hC.2.1 hd k) h
theorem hs_lsub {x y : Int64} (hd : decode μ.2.1 pc = .ok (.lsub, 1)) (h : hb_T G l z μ d rc rs (pc + 1) lv (.long (x - y) :: st) σ res) : hb_T G l z μ d rc rs pc lv (.long y :: .long x :: st) σ res :=
  hb_lift (fun p e R s m args below meth c Q H locs cells slots ls hC hl k => lv_lsub hC.1 hC.2.1 hd k) h
theorem hs_lmul {x y : Int64} (hd : decode μ.2.1 pc = .ok (.lmul, 1)) (h : hb_T G l z μ d rc rs (pc + 1) lv (.long (x * y) :: st) σ res) : hb_T G l z μ d rc rs pc lv (.long y :: .long x :: st) σ res :=
  hb_lift (fun p e R s m args below meth c Q H locs cells slots ls hC hl k => lv_lmul hC.1 hC.2.1 hd k) h
theorem hs_land {x y : Int64} (hd : decode μ.2.1 pc = .ok (.land, 1)) (h : hb_T G l z μ d rc rs (pc + 1) lv (.long (x &&& y) :: st) σ res) : hb_T G l z μ d rc rs pc lv (.long y :: .long x :: st) σ res :=
  hb_lift (fun p e R s m args below meth c Q H locs cells slots ls hC hl k => lv_land hC.1 hC.2.1 hd k) h
theorem hs_lor {x y : Int64} (hd : decode μ.2.1 pc = .ok (.lor, 1)) (h : hb_T G l z μ d rc rs (pc + 1) lv (.long (x ||| y) :: st) σ res) : hb_T G l z μ d rc rs pc lv (.long y :: .long x :: st) σ res :=
  hb_lift (fun p e R s m args below meth c Q H locs cells slots ls hC hl k => lv_lor hC.1 hC.2.1 hd k) h
theorem hs_lxor {x y : Int64} (hd : decode μ.2.1 pc = .ok (.lxor, 1)) (h : hb_T G l z μ d rc rs (pc + 1) lv (.long (x ^^^ y) :: st) σ res) : hb_T G l z μ d rc rs pc lv (.long y :: .long x :: st) σ res :=
  hb_lift (fun p e R s m args below meth c Q H locs cells slots ls hC hl k => lv_lxor hC.1 hC.2.1 hd k) h
theorem hs_ldiv {x y : Int64} (hd : decode μ.2.1 pc = .ok (.ldiv, 1)) (hy : ¬ y = 0) (h : hb_T G l z μ d rc rs (pc + 1) lv (.long (x / y) :: st) σ res) : hb_T G l z μ d rc rs pc lv (.long y :: .long x :: st) σ res :=
  hb_lift (fun p e R s m args below meth c Q H locs cells slots ls hC hl k => lv_ldiv hC.1 hC.2.1 hd hy k) h
theorem hs_lrem {x y : Int64} (hd : decode μ.2.1 pc = .ok (.lrem, 1)) (hy : ¬ y = 0) (h : hb_T G l z μ d rc rs (pc + 1) lv (.long (x - x / y * y) :: st) σ res) : hb_T G l z μ d rc rs pc lv (.long y :: .long x :: st) σ res :=
  hb_lift (fun p e R s m args below meth c Q H locs cells slots ls hC hl k => lv_lrem hC.1 hC.2.1 hd hy k) h
theorem hs_lshl {x : Int64} {y : Int32} (hd : decode μ.2.1 pc = .ok (.lshl, 1)) (h : hb_T G l z μ d rc rs (pc + 1) lv (.long (x <<< (y.toInt64 &&& 63)) :: st) σ res) : hb_T G l z μ d rc rs pc lv (.int y :: .long x :: st) σ res :=
  hb_lift (fun p e R s m args below meth c Q H locs cells slots ls hC hl k => lv_lshl hC.1 hC.2.1 hd rfl k) h
theorem hs_lshr {x : Int64} {y : Int32} (hd : decode μ.2.1 pc = .ok (.lshr, 1)) (h : hb_T G l z μ d rc rs (pc + 1) lv (.long (x >>> (y.toInt64 &&& 63)) :: st) σ res) : hb_T G l z μ d rc rs pc lv (.int y :: .long x :: st) σ res :=
  hb_lift (fun p e R s m args below meth c Q H locs cells slots ls hC hl k => lv_lshr hC.1 hC.2.1 hd rfl k) h
theorem hs_lushr {x : Int64} {y : Int32} (hd : decode μ.2.1 pc = .ok (.lushr, 1)) (h : hb_T G l z μ d rc rs (pc + 1) lv (.long ((x.toUInt64 >>> (y.toInt64.toUInt64 &&& Int64.toUInt64 63)).toInt64) :: st) σ res) : hb_T G l z μ d rc rs pc lv (.int y :: .long x :: st) σ res :=
  hb_lift (fun p e R s m args below meth c Q H locs cells slots ls hC hl k => lv_lushr hC.1 hC.2.1 hd rfl k) h
theorem hs_lcmp {x y : Int64} (hd : decode μ.2.1 pc = .ok (.lcmp, 1)) (h : hb_T G l z μ d rc rs (pc + 1) lv (.int (lg_cmp x y) :: st) σ res) : hb_T G l z μ d rc rs pc lv (.long y :: .long x :: st) σ res :=
  hb_lift (fun p e R s m args below meth c Q H locs cells slots ls hC hl k => W.lcmp hC.1 hC.2.1 hd k) h
theorem hs_i2l {x : Int32} (hd : decode μ.2.1 pc = .ok (.i2l, 1)) (h : hb_T G l z μ d rc rs (pc + 1) lv (.long x.toInt64 :: st) σ res) : hb_T G l z μ d rc rs pc lv (.int x :: st) σ res :=
  hb_lift (fun p e R s m args below meth c Q H locs cells slots ls hC hl k => lv_i2l hC.1 hC.2.1 hd rfl k) h
theorem hs_l2i {x : Int64} (hd : decode μ.2.1 pc = .ok (.l2i, 1)) (h : hb_T G l z μ d rc rs (pc + 1) lv (.int x.toInt32 :: st) σ res) : hb_T G l z μ d rc rs pc lv (.long x :: st) σ res :=
  hb_lift (fun p e R s m args below meth c Q H locs cells slots ls hC hl k => lv_l2i hC.1 hC.2.1 hd rfl k) h
theorem hs_i2b {x : Int32} (hd : decode μ.2.1 pc = .ok (.i2b, 1)) (h : hb_T G l z μ d rc rs (pc + 1) lv (.int x.toInt8.toInt32 :: st) σ res) : hb_T G l z μ d rc rs pc lv (.int x :: st) σ res :=
  hb_lift (fun p e R s m args below meth c Q H locs cells slots ls hC hl k => lv_i2b hC.1 hC.2.1 hd rfl k) h
theorem hs_i2c {x : Int32} (hd : decode μ.2.1 pc = .ok (.i2c, 1)) (h : hb_T G l z μ d rc rs (pc + 1) lv (.int (x.toUInt32 % 65536).toInt32 :: st) σ res) : hb_T G l z μ d rc rs pc lv (.int x :: st) σ res :=
  hb_lift (fun p e R s m args below meth c Q H locs cells slots ls hC hl k => lv_i2c hC.1 hC.2.1 hd rfl k) h
theorem hs_i2d {x : Int32} (hd : decode μ.2.1 pc = .ok (.i2d, 1)) (h : hb_T G l z μ d rc rs (pc + 1) lv (.double (FP.i2d x) :: st) σ res) : hb_T G l z μ d rc rs pc lv (.int x :: st) σ res :=
  hb_lift (fun p e R s m args below meth c Q H locs cells slots ls hC hl k => lv_i2d hC.1 hC.2.1 hd k) h
theorem hs_l2d {x : Int64} (hd : decode μ.2.1 pc = .ok (.l2d, 1)) (h : hb_T G l z μ d rc rs (pc + 1) lv (.double (FP.l2d x) :: st) σ res) : hb_T G l z μ d rc rs pc lv (.long x :: st) σ res :=
  hb_lift (fun p e R s m args below meth c Q H locs cells slots ls hC hl k => lv_l2d hC.1 hC.2.1 hd k) h
theorem hs_i2f {x : Int32} (hd : decode μ.2.1 pc = .ok (.i2f, 1)) (h : hb_T G l z μ d rc rs (pc + 1) lv (.float (FP.i2f x) :: st) σ res) : hb_T G l z μ d rc rs pc lv (.int x :: st) σ res :=
  hb_lift (fun p e R s m args below meth c Q H locs cells slots ls hC hl k => lv_i2f hC.1 hC.2.1 hd k) h
theorem hs_l2f {x : Int64} (hd : decode μ.2.1 pc = .ok (.l2f, 1)) (h : hb_T G l z μ d rc rs (pc + 1) lv (.float (FP.l2f x) :: st) σ res) : hb_T G l z μ d rc rs pc lv (.long x :: st) σ res :=
  hb_lift (fun p e R s m args below meth c Q H locs cells slots ls hC hl k => lv_l2f hC.1 hC.2.1 hd k) h
theorem hs_fdiv {x y : UInt32} (hd : decode μ.2.1 pc = .ok (.fdiv, 1)) (hn : vf_n32 (FP.fdiv x y)) (h : hb_T G l z μ d rc rs (pc + 1) lv (.float (FP.fdiv x y) :: st) σ res) : hb_T G l z μ d rc rs pc lv (.float y :: .float x :: st) σ res :=
  hb_lift (fun p e R s m args below meth c Q H locs cells slots ls hC hl k => lv_fdiv hC.1 hC.2.1 hd hn k) h
theorem hs_ddiv {x y : UInt64} (hd : decode μ.2.1 pc = .ok (.ddiv, 1)) (hn : vf_n64 (FP.ddiv x y)) (h : hb_T G l z μ d rc rs (pc + 1) lv (.double (FP.ddiv x y) :: st) σ res) : hb_T G l z μ d rc rs pc lv (.double y :: .double x :: st) σ res :=
  hb_lift (fun p e R s m args below meth c Q H locs cells slots ls hC hl k => lv_ddiv hC.1 hC.2.1 hd hn k) h
theorem hs_fcmp {x y : UInt32} {op : CmpOp} (hd : decode μ.2.1 pc = .ok (.fcmp op, 1)) (h : hb_T G l z μ d rc rs (pc + 1) lv (.int (Op.cmpValue (FP.fcmp x y) op) :: st) σ res) : hb_T G l z μ d rc rs pc lv (.float y :: .float x :: st) σ res :=
  hb_lift (fun p e R s m args below meth c Q H locs cells slots ls hC hl k => lv_fcmp hC.1 hC.2.1 hd k) h
theorem hs_dcmp {x y : UInt64} {op : CmpOp} (hd : decode μ.2.1 pc = .ok (.dcmp op, 1)) (h : hb_T G l z μ d rc rs (pc + 1) lv (.int (Op.cmpValue (FP.dcmp x y) op) :: st) σ res) : hb_T G l z μ d rc rs pc lv (.double y :: .double x :: st) σ res :=
  hb_lift (fun p e R s m args below meth c Q H locs cells slots ls hC hl k => lv_dcmp hC.1 hC.2.1 hd k) h
theorem hs_fconst0 (hd : decode μ.2.1 pc = .ok (.fconst 0, 1)) (h : hb_T G l z μ d rc rs (pc + 1) lv (.float FP.fconst0 :: st) σ res) : hb_T G l z μ d rc rs pc lv (st) σ res :=
  hb_lift (fun p e R s m args below meth c Q H locs cells slots ls hC hl k => lv_fconst0 hC.1 hC.2.1 hd k) h
theorem hs_dconst0 (hd : decode μ.2.1 pc = .ok (.dconst 0, 1)) (h : hb_T G l z μ d rc rs (pc + 1) lv (.double FP.dconst0 :: st) σ res) : hb_T G l z μ d rc rs pc lv (st) σ res :=
  hb_lift (fun p e R s m args below meth c Q H locs cells slots ls hC hl k => lv_dconst0 hC.1 hC.2.1 hd k) h
theorem hs_dup {va : Value} (hd : decode μ.2.1 pc = .ok (.dup, 1)) (hc : va.category = 1) (h : hb_T G l z μ d rc rs (pc + 1) lv (va :: va :: st) σ res) : hb_T G l z μ d rc rs pc lv (va :: st) σ res :=
  hb_lift (fun p e R s m args below meth c Q H locs cells slots ls hC hl k => lv_dup hC.1 hC.2.1 hd (by rw [hb_tr_cat]; exact hc) k) h
theorem hs_dup2 {va vb : Value} (hd : decode μ.2.1 pc = .ok (.dup2, 1)) (hc : va.category = 1) (hc2 : vb.category = 1) (h : hb_T G l z μ d rc rs (pc + 1) lv (va :: vb :: va :: vb :: st) σ res) : hb_T G l z μ d rc rs pc lv (va :: vb :: st) σ res :=
  hb_lift (fun p e R s m args below meth c Q H locs cells slots ls hC hl k => lv_dup2_11 hC.1 hC.2.1 hd (by rw [hb_tr_cat]; exact hc) (by rw [hb_tr_cat]; exact hc2) k) h
theorem hs_pop {va : Value} (hd : decode μ.2.1 pc = .ok (.pop, 1)) (hc : va.category = 1) (h : hb_T G l z μ d rc rs (pc + 1) lv (st) σ res) : hb_T G l z μ d rc rs pc lv (va :: st) σ res :=
  hb_lift (fun p e R s m args below meth c Q H locs cells slots ls hC hl k => lv_pop hC.1 hC.2.1 hd (by rw [hb_tr_cat]; exact hc) k) h
theorem hs_ldc {i : Nat} {v : Int32} (hd : decode μ.2.1 pc = .ok (.ldc i, 2)) (hw : Cond.constant μ.1.cls i v ∈ hb_wl) (h : hb_T G l z μ d rc rs (pc + 2) lv (.int v :: st) σ res) : hb_T G l z μ d rc rs pc lv (st) σ res :=
  hb_lift (fun p e R s m args below meth c Q H locs cells slots ls hC hl k => lv_ldc hC.1 hC.2.1 hC.2.2.2.1 (hC.2.2.2.2.1 _ hw) hd k) h
theorem hs_ldc2 {i : Nat} {v : Int64} (hd : decode μ.2.1 pc = .ok (.ldc2_w i, 3)) (hw : Cond.constantLong μ.1.cls i v ∈ hb_wl) (h : hb_T G l z μ d rc rs (pc + 3) lv (.long v :: st) σ res) : hb_T G l z μ d rc rs pc lv (st) σ res :=
  hb_lift (fun p e R s m args below meth c Q H locs cells slots ls hC hl k => lv_ldc2 hC.1 hC.2.1 hC.2.2.2.1 (hC.2.2.2.2.1 _ hw) hd k) h
theorem hs_goto {off : Int} {tgt : Nat} (hd : decode μ.2.1 pc = .ok (.goto off, 3)) (ht : (pc : Int) + off = (tgt : Int)) (h : hb_T G l z μ d rc rs tgt lv st σ res) : hb_T G l z μ d rc rs pc lv st σ res :=
  hb_lift (fun p e R s m args below meth c Q H locs cells slots ls hC hl k => lv_goto hC.1 hC.2.1 hd ht k) h
theorem hb_lift2 {A : Prop} {pc'' : Nat} (k : ∀ (p : Program) (e : Env) (R : Room) (s : State) (m : MethodId) (args : Array Value) (below : List Frame) (meth : Method) (c : Code) (Q : State → Prop) (H : Heap) (locs : List Loc) (cells slots : Nat) (ls : Array Slot), hb_C G μ p s m args meth c →
      (A → W p l e R s m args below meth c H locs cells slots Q (F0 m pc' ls (st'.map (hb_tr G)))) → (¬ A → W p l e R s m args below meth c H locs cells slots Q (F0 m pc'' ls (st'.map (hb_tr G)))) → W p l e R s m args below meth c H locs cells slots Q (F0 m pc ls (st.map (hb_tr G))))
    (h : A → hb_T G l z μ d rc rs pc' lv st' σ res) (h' : ¬ A → hb_T G l z μ d rc rs pc'' lv st' σ res) : hb_T G l z μ d rc rs pc lv st σ res := by
  intro p e R s m args below meth c Q hC h1 h2 e1 e2 H locs cells slots ls hc hs hD hl
  exact k p e R s m args below meth c Q H locs cells slots ls hC (fun a => h a p e R s m args below meth c Q hC h1 h2 e1 e2 H locs cells slots ls hc hs hD hl) (fun a => h' a p e R s m args below meth c Q hC h1 h2 e1 e2 H locs cells slots ls hc hs hD hl)
theorem hs_icmp_eq {x y : Int32} {off : Int} {tgt : Nat} (hd : decode μ.2.1 pc = .ok (.if_icmp .eq off, 3)) (ht : (pc : Int) + off = (tgt : Int)) (h : x = y → hb_T G l z μ d rc rs tgt lv st σ res) (h2 : ¬ (x = y) → hb_T G l z μ d rc rs (pc + 3) lv st σ res) : hb_T G l z μ d rc rs pc lv (.int y :: .int x :: st) σ res :=
  hb_lift2 (fun p e R s m args below meth c Q H locs cells slots ls hC k k2 => lv_icmp_eq hC.1 hC.2.1 hd ht k k2) h h2
theorem hs_if_eq {x : Int32} {off : Int} {tgt : Nat} (hd : decode μ.2.1 pc = .ok (.ifCond .eq off, 3)) (ht : (pc : Int) + off = (tgt : Int)) (h : x = 0 → hb_T G l z μ d rc rs tgt lv st σ res) (h2 : ¬ (x = 0) → hb_T G l z μ d rc rs (pc + 3) lv st σ res) : hb_T G l z μ d rc rs pc lv (.int x :: st) σ res :=
  hb_lift2 (fun p e R s m args below meth c Q H locs cells slots ls hC k k2 => lv_if_eq hC.1 hC.2.1 hd ht k k2) h h2
theorem hs_icmp_lt {x y : Int32} {off : Int} {tgt : Nat} (hd : decode μ.2.1 pc = .ok (.if_icmp .lt off, 3)) (ht : (pc : Int) + off = (tgt : Int)) (h : x < y → hb_T G l z μ d rc rs tgt lv st σ res) (h2 : ¬ (x < y) → hb_T G l z μ d rc rs (pc + 3) lv st σ res) : hb_T G l z μ d rc rs pc lv (.int y :: .int x :: st) σ res :=
  hb_lift2 (fun p e R s m args below meth c Q H locs cells slots ls hC k k2 => lv_icmp_lt hC.1 hC.2.1 hd ht k k2) h h2
theorem hs_if_lt {x : Int32} {off : Int} {tgt : Nat} (hd : decode μ.2.1 pc = .ok (.ifCond .lt off, 3)) (ht : (pc : Int) + off = (tgt : Int)) (h : x < 0 → hb_T G l z μ d rc rs tgt lv st σ res) (h2 : ¬ (x < 0) → hb_T G l z μ d rc rs (pc + 3) lv st σ res) : hb_T G l z μ d rc rs pc lv (.int x :: st) σ res :=
  hb_lift2 (fun p e R s m args below meth c Q H locs cells slots ls hC k k2 => lv_if_lt hC.1 hC.2.1 hd ht k k2) h h2
theorem hs_icmp_ge {x y : Int32} {off : Int} {tgt : Nat} (hd : decode μ.2.1 pc = .ok (.if_icmp .ge off, 3)) (ht : (pc : Int) + off = (tgt : Int)) (h : y ≤ x → hb_T G l z μ d rc rs tgt lv st σ res) (h2 : ¬ (y ≤ x) → hb_T G l z μ d rc rs (pc + 3) lv st σ res) : hb_T G l z μ d rc rs pc lv (.int y :: .int x :: st) σ res :=
  hb_lift2 (fun p e R s m args below meth c Q H locs cells slots ls hC k k2 => lv_icmp_ge hC.1 hC.2.1 hd ht k k2) h h2
theorem hs_if_ge {x : Int32} {off : Int} {tgt : Nat} (hd : decode μ.2.1 pc = .ok (.ifCond .ge off, 3)) (ht : (pc : Int) + off = (tgt : Int)) (h : 0 ≤ x → hb_T G l z μ d rc rs tgt lv st σ res) (h2 : ¬ (0 ≤ x) → hb_T G l z μ d rc rs (pc + 3) lv st σ res) : hb_T G l z μ d rc rs pc lv (.int x :: st) σ res :=
  hb_lift2 (fun p e R s m args below meth c Q H locs cells slots ls hC k k2 => lv_if_ge hC.1 hC.2.1 hd ht k k2) h h2
theorem hs_icmp_gt {x y : Int32} {off : Int} {tgt : Nat} (hd : decode μ.2.1 pc = .ok (.if_icmp .gt off, 3)) (ht : (pc : Int) + off = (tgt : Int)) (h : y < x → hb_T G l z μ d rc rs tgt lv st σ res) (h2 : ¬ (y < x) → hb_T G l z μ d rc rs (pc + 3) lv st σ res) : hb_T G l z μ d rc rs pc lv (.int y :: .int x :: st) σ res :=
  hb_lift2 (fun p e R s m args below meth c Q H locs cells slots ls hC k k2 => lv_icmp_gt hC.1 hC.2.1 hd ht k k2) h h2
theorem hs_if_gt {x : Int32} {off : Int} {tgt : Nat} (hd : decode μ.2.1 pc = .ok (.ifCond .gt off, 3)) (ht : (pc : Int) + off = (tgt : Int)) (h : 0 < x → hb_T G l z μ d rc rs tgt lv st σ res) (h2 : ¬ (0 < x) → hb_T G l z μ d rc rs (pc + 3) lv st σ res) : hb_T G l z μ d rc rs pc lv (.int x :: st) σ res :=
  hb_lift2 (fun p e R s m args below meth c Q H locs cells slots ls hC k k2 => lv_if_gt hC.1 hC.2.1 hd ht k k2) h h2
theorem hs_icmp_le {x y : Int32} {off : Int} {tgt : Nat} (hd : decode μ.2.1 pc = .ok (.if_icmp .le off, 3)) (ht : (pc : Int) + off = (tgt : Int)) (h : x ≤ y → hb_T G l z μ d rc rs tgt lv st σ res) (h2 : ¬ (x ≤ y) → hb_T G l z μ d rc rs (pc + 3) lv st σ res) : hb_T G l z μ d rc rs pc lv (.int y :: .int x :: st) σ res :=
  hb_lift2 (fun p e R s m args below meth c Q H locs cells slots ls hC k k2 => lv_icmp_le hC.1 hC.2.1 hd ht k k2) h h2
theorem hs_if_le {x : Int32} {off : Int} {tgt : Nat} (hd : decode μ.2.1 pc = .ok (.ifCond .le off, 3)) (ht : (pc : Int) + off = (tgt : Int)) (h : x ≤ 0 → hb_T G l z μ d rc rs tgt lv st σ res) (h2 : ¬ (x ≤ 0) → hb_T G l z μ d rc rs (pc + 3) lv st σ res) : hb_T G l z μ d rc rs pc lv (.int x :: st) σ res :=
  hb_lift2 (fun p e R s m args below meth c Q H locs cells slots ls hC k k2 => lv_if_le hC.1 hC.2.1 hd ht k k2) h h2
theorem hs_icmp_ne {x y : Int32} {off : Int} {tgt : Nat} (hd : decode μ.2.1 pc = .ok (.if_icmp .ne off, 3)) (ht : (pc : Int) + off = (tgt : Int)) (h : ¬ (x = y) → hb_T G l z μ d rc rs tgt lv st σ res) (h2 : x = y → hb_T G l z μ d rc rs (pc + 3) lv st σ res) : hb_T G l z μ d rc rs pc lv (.int y :: .int x :: st) σ res :=
  hb_lift2 (A := x = y) (fun p e R s m args below meth c Q H locs cells slots ls hC k k2 => lv_icmp_ne hC.1 hC.2.1 hd ht k2 k) h2 h
theorem hs_if_ne {x : Int32} {off : Int} {tgt : Nat} (hd : decode μ.2.1 pc = .ok (.ifCond .ne off, 3)) (ht : (pc : Int) + off = (tgt : Int)) (h : ¬ (x = 0) → hb_T G l z μ d rc rs tgt lv st σ res) (h2 : x = 0 → hb_T G l z μ d rc rs (pc + 3) lv st σ res) : hb_T G l z μ d rc rs pc lv (.int x :: st) σ res :=
  hb_lift2 (A := x = 0) (fun p e R s m args below meth c Q H locs cells slots ls hC k k2 => lv_if_ne hC.1 hC.2.1 hd ht k2 k) h2 h
def hb_sv (i : Nat) (v : Value) (lv : List (Nat × Value)) : List (Nat × Value) := (i, v) :: lv.filter (fun q => !(q.1 == i) && !(q.1 + 1 == i && q.2.category == 2))
def hb_sw (i : Nat) (v : Value) (lv : List (Nat × Value)) : List (Nat × Value) := (i, v) :: lv.filter (fun q => !(q.1 == i) && (!(q.1 == i + 1) && !(q.1 + 1 == i && q.2.category == 2)))
theorem hb_sv_map (G : hb_G) (i : Nat) (v : Value) (lv : List (Nat × Value)) : (i, hb_tr G v) :: (lv.map (hb_tl G)).filter (fun q => !(q.1 == i) && !(q.1 + 1 == i && q.2.category == 2)) = (hb_sv i v lv).map (hb_tl G) := by
  simp only [hb_sv, List.map_cons, List.filter_map, hb_tl]
  congr 2
  apply List.filter_congr
  intro q hq
  simp [Function.comp, hb_tl, hb_tr_cat]
theorem hb_sw_map (G : hb_G) (i : Nat) (v : Value) (lv : List (Nat × Value)) : (i, hb_tr G v) :: (lv.map (hb_tl G)).filter (fun q => !(q.1 == i) && (!(q.1 == i + 1) && !(q.1 + 1 == i && q.2.category == 2))) = (hb_sw i v lv).map (hb_tl G) := by
  simp only [hb_sw, List.map_cons, List.filter_map, hb_tl]
  congr 2
  apply List.filter_congr
  intro q hq
  simp [Function.comp, hb_tl, hb_tr_cat]
theorem hb_liftL (k : ∀ (p : Program) (e : Env) (R : Room) (s : State) (m : MethodId) (args : Array Value) (below : List Frame) (meth : Method) (c : Code) (Q : State → Prop) (H : Heap) (locs : List Loc) (cells slots : Nat) (ls : Array Slot), hb_C G μ p s m args meth c → lv_has ls μ.2.2.1 (lv.map (hb_tl G)) →
      (∀ ls' : Array Slot, lv_has ls' μ.2.2.1 (lv'.map (hb_tl G)) → W p l e R s m args below meth c H locs cells slots Q (F0 m pc' ls' (st'.map (hb_tr G)))) → W p l e R s m args below meth c H locs cells slots Q (F0 m pc ls (st.map (hb_tr G))))
    (h : hb_T G l z μ d rc rs pc' lv' st' σ res) : hb_T G l z μ d rc rs pc lv st σ res := by
  intro p e R s m args below meth c Q hC h1 h2 e1 e2 H locs cells slots ls hc hs hD hl
  exact k p e R s m args below meth c Q H locs cells slots ls hC hl (fun ls' hl' => h p e R s m args below meth c Q hC h1 h2 e1 e2 H locs cells slots ls' hc hs hD hl')
theorem hs_istore_n {n : Fin 4} {x : Int32} (hd : decode μ.2.1 pc = .ok (.istore_n n, 1)) (hn : (n : Nat) < μ.2.2.1) (hl : hb_sv (n : Nat) (.int x) lv = lv') (h : hb_T G l z μ d rc rs (pc + 1) lv' st σ res) : hb_T G l z μ d rc rs pc lv (.int x :: st) σ res :=
  hb_liftL (fun p e R s m args below meth c Q H locs cells slots ls hC h9 k => lv_istore_n hC.1 hC.2.1 hd rfl h9 hn (by rw [← hl]; exact hb_sv_map G _ (.int x) lv) k) h
theorem hs_istore {i : Nat} {x : Int32} (hd : decode μ.2.1 pc = .ok (.istore i, 2)) (hn : i < μ.2.2.1) (hl : hb_sv i (.int x) lv = lv') (h : hb_T G l z μ d rc rs (pc + 2) lv' st σ res) : hb_T G l z μ d rc rs pc lv (.int x :: st) σ res :=
  hb_liftL (fun p e R s m args below meth c Q H locs cells slots ls hC h9 k => lv_istore hC.1 hC.2.1 hd h9 hn (by rw [← hl]; exact hb_sv_map G _ (.int x) lv) k) h
theorem hs_lstore_n {n : Fin 4} {x : Int64} (hd : decode μ.2.1 pc = .ok (.lstore_n n, 1)) (hn : (n : Nat) + 1 < μ.2.2.1) (hl : hb_sw (n : Nat) (.long x) lv = lv') (h : hb_T G l z μ d rc rs (pc + 1) lv' st σ res) : hb_T G l z μ d rc rs pc lv (.long x :: st) σ res :=
  hb_liftL (fun p e R s m args below meth c Q H locs cells slots ls hC h9 k => lv_lstore_n hC.1 hC.2.1 hd rfl h9 hn (by rw [← hl]; exact hb_sw_map G _ (.long x) lv) k) h
theorem hs_lstore {i : Nat} {x : Int64} (hd : decode μ.2.1 pc = .ok (.lstore i, 2)) (hn : i + 1 < μ.2.2.1) (hl : hb_sw i (.long x) lv = lv') (h : hb_T G l z μ d rc rs (pc + 2) lv' st σ res) : hb_T G l z μ d rc rs pc lv (.long x :: st) σ res :=
  hb_liftL (fun p e R s m args below meth c Q H locs cells slots ls hC h9 k => lv_lstore hC.1 hC.2.1 hd h9 hn (by rw [← hl]; exact hb_sw_map G _ (.long x) lv) k) h
theorem hs_fstore_n {n : Fin 4} {x : UInt32} (hd : decode μ.2.1 pc = .ok (.fstore_n n, 1)) (hn : (n : Nat) < μ.2.2.1) (hl : hb_sv (n : Nat) (.float x) lv = lv') (h : hb_T G l z μ d rc rs (pc + 1) lv' st σ res) : hb_T G l z μ d rc rs pc lv (.float x :: st) σ res :=
  hb_liftL (fun p e R s m args below meth c Q H locs cells slots ls hC h9 k => lv_fstore_n hC.1 hC.2.1 hd rfl h9 hn (by rw [← hl]; exact hb_sv_map G _ (.float x) lv) k) h
theorem hs_fstore {i : Nat} {x : UInt32} (hd : decode μ.2.1 pc = .ok (.fstore i, 2)) (hn : i < μ.2.2.1) (hl : hb_sv i (.float x) lv = lv') (h : hb_T G l z μ d rc rs (pc + 2) lv' st σ res) : hb_T G l z μ d rc rs pc lv (.float x :: st) σ res :=
  hb_liftL (fun p e R s m args below meth c Q H locs cells slots ls hC h9 k => lv_fstore hC.1 hC.2.1 hd h9 hn (by rw [← hl]; exact hb_sv_map G _ (.float x) lv) k) h
theorem hs_dstore_n {n : Fin 4} {x : UInt64} (hd : decode μ.2.1 pc = .ok (.dstore_n n, 1)) (hn : (n : Nat) + 1 < μ.2.2.1) (hl : hb_sw (n : Nat) (.double x) lv = lv') (h : hb_T G l z μ d rc rs (pc + 1) lv' st σ res) : hb_T G l z μ d rc rs pc lv (.double x :: st) σ res :=
  hb_liftL (fun p e R s m args below meth c Q H locs cells slots ls hC h9 k => lv_dstore_n hC.1 hC.2.1 hd rfl h9 hn (by rw [← hl]; exact hb_sw_map G _ (.double x) lv) k) h
theorem hs_dstore {i : Nat} {x : UInt64} (hd : decode μ.2.1 pc = .ok (.dstore i, 2)) (hn : i + 1 < μ.2.2.1) (hl : hb_sw i (.double x) lv = lv') (h : hb_T G l z μ d rc rs (pc + 2) lv' st σ res) : hb_T G l z μ d rc rs pc lv (.double x :: st) σ res :=
  hb_liftL (fun p e R s m args below meth c Q H locs cells slots ls hC h9 k => lv_dstore hC.1 hC.2.1 hd h9 hn (by rw [← hl]; exact hb_sw_map G _ (.double x) lv) k) h
theorem hs_astore_n {n : Fin 4} {x : Nat} (hd : decode μ.2.1 pc = .ok (.astore_n n, 1)) (hn : (n : Nat) < μ.2.2.1) (hl : hb_sv (n : Nat) (.ref x) lv = lv') (h : hb_T G l z μ d rc rs (pc + 1) lv' st σ res) : hb_T G l z μ d rc rs pc lv (.ref x :: st) σ res :=
  hb_liftL (fun p e R s m args below meth c Q H locs cells slots ls hC h9 k => lv_astore_n hC.1 hC.2.1 hd rfl h9 hn (by rw [← hl]; exact hb_sv_map G _ (.ref x) lv) k) h
theorem hs_astore {i : Nat} {x : Nat} (hd : decode μ.2.1 pc = .ok (.astore i, 2)) (hn : i < μ.2.2.1) (hl : hb_sv i (.ref x) lv = lv') (h : hb_T G l z μ d rc rs (pc + 2) lv' st σ res) : hb_T G l z μ d rc rs pc lv (.ref x :: st) σ res :=
  hb_liftL (fun p e R s m args below meth c Q H locs cells slots ls hC h9 k => lv_astore hC.1 hC.2.1 hd h9 hn (by rw [← hl]; exact hb_sv_map G _ (.ref x) lv) k) h
theorem hs_iinc {i : Nat} {n : Int} {x : Int32} (hd : decode μ.2.1 pc = .ok (.iinc i n, 3)) (j : Nat) (hj : lv[j]? = some (i, .int x)) (hn : i < μ.2.2.1) (hl : hb_sv i (.int (x + Int32.ofInt n)) lv = lv') (h : hb_T G l z μ d rc rs (pc + 3) lv' st σ res) : hb_T G l z μ d rc rs pc lv st σ res :=
  hb_liftL (fun p e R s m args below meth c Q H locs cells slots ls hC h9 k => lv_iinc (k := j) hC.1 hC.2.1 hd h9 (by rw [List.getElem?_map, hj]; rfl) rfl hn (by rw [← hl]; exact hb_sv_map G _ (.int (x + Int32.ofInt n)) lv) k) h
/-- fewer locals, by their places -/
theorem hs_sub (ks : List Nat) (hl : lv_pick lv ks = lv') (h : hb_T G l z μ d rc rs pc lv' st σ res) : hb_T G l z μ d rc rs pc lv st σ res := by
  intro p e R s m args below meth c Q hC h1 h2 e1 e2 H locs cells slots ls hc hs hD h9
  refine h p e R s m args below meth c Q hC h1 h2 e1 e2 H locs cells slots ls hc hs hD (lv_sub h9 ks ?_)
  rw [← hl]
  simp [lv_pick, List.map_filterMap, List.getElem?_map]
theorem hb_size {p : Program} {e : Env} {R : Room} {s : State} {m : MethodId} {args : Array Value} {below : List Frame} {meth : Method} {c : Code} {Q : State → Prop} {H : Heap} {locs : List Loc} {cells slots : Nat} {g : JFrame} (h : H.size ≤ s.heap.size + cells → W p l e R s m args below meth c H locs cells slots Q g) : W p l e R s m args below meth c H locs cells slots Q g :=
  fun T hT X => h (by rw [← hT]; exact X.heapSize) T hT X
/-- behind a write: the world is σ' now -/
theorem hb_stored {p : Program} {e : Env} {R : Room} {s : State} {m : MethodId} {args : Array Value} {below : List Frame} {meth : Method} {c : Code} {Q : State → Prop} {H : Heap} {locs : List Loc} {cells slots : Nat} {ls : Array Slot} {a : Nat} {q : Nat × Nat} (h : hb_T G l z μ d rc rs pc lv st σ' res) (hC : hb_C G μ p s m args meth c) (h1 : d + 8 ≤ R.frames) (h2 : 100 * d + 200 ≤ R.locals) (e1 : hb_E1 G l μ z res p e R s m args below meth c Q) (e2 : hb_E2 G l z res p e R s m args below meth c Q)
    (hc : cells + rc ≤ R.cells) (hs : slots + rs ≤ R.slots) (hD : hb_D G z σ s H locs cells rc R) (hl : lv_has ls μ.2.2.1 (lv.map (hb_tl G))) (hq : σ.1[a]? = some q) (h1' : σ'.1 = σ.1) {H1 : Heap} {locs1 : List Loc} (hP1 : va_P (G.1, G.2.1) vwCl (hb_ws G σ') H1) (hS1 : va_S (hb_A G) s.heap H1 locs1) : W p l e R s m args below meth c H1 locs1 cells slots Q (F0 m pc ls (st.map (hb_tr G))) := by
  refine hb_size (fun hz => h p e R s m args below meth c Q hC h1 h2 e1 e2 H1 locs1 cells slots ls hc hs ⟨hP1, hS1, fun hf => ?_⟩ hl)
  obtain ⟨k1, k2, k3⟩ := hD.2.2 hf
  have hlen : a < σ.1.length := (List.getElem?_eq_some_iff.mp hq).1
  obtain ⟨q2, hq2⟩ : ∃ q2, σ'.1[σ.1.length - 1]? = some q2 := by
    rw [h1']
    exact ⟨_, List.getElem?_eq_getElem (by omega)⟩
  have h9 := (hP1 _ _ (hb_ws_at (G := G) hq2)).lt
  have h9 : hb_base G + (σ.1.length - 1) < H1.size := h9
  rw [h1']
  omega
end HS
