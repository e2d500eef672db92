/-! the start: what the Statement gives, as the small machine's still surroundings -/
theorem hb_tin {w : Cond} (i : Nat) (h : tables_1[i]? = some w) : w ∈ lw_tbl := List.mem_append_right _ (List.mem_of_getElem? h)
theorem hb_nw_in : ∀ w ∈ hb_nw, w ∈ tables_1 := by decide +kernel
theorem hb_xw_in : ∀ w ∈ hb_xw, w ∈ tables_1 := by decide +kernel
def hb_tm (i : Nat) : Term := match i with
  | 0 => .string "HeapBrowser$Filter" 90
  | 1 => .string "HeapBrowser$Filter" 96
  | _ => .string "HeapBrowser$Commands" 56
theorem hb_lt3 {P : Nat → Prop} (h0 : P 0) (h1 : P 1) (h2 : P 2) : ∀ i : Nat, i < 3 → P i := by
  intro i hi
  match i, hi with
  | 0, _ => exact h0
  | 1, _ => exact h1
  | 2, _ => exact h2
theorem hb_lt8 {P : Nat → Prop} (h0 : P 0) (h1 : P 1) (h2 : P 2) (h3 : P 3) (h4 : P 4) (h5 : P 5) (h6 : P 6) (h7 : P 7) : ∀ i : Nat, i < 8 → P i := by
  intro i hi
  match i, hi with
  | 0, _ => exact h0
  | 1, _ => exact h1
  | 2, _ => exact h2
  | 3, _ => exact h3
  | 4, _ => exact h4
  | 5, _ => exact h5
  | 6, _ => exact h6
  | 7, _ => exact h7
theorem hb_lt7 {P : Nat → Prop} (h0 : P 0) (h1 : P 1) (h2 : P 2) (h3 : P 3) (h4 : P 4) (h5 : P 5) (h6 : P 6) : ∀ i : Nat, i < 7 → P i := by
  intro i hi
  match i, hi with
  | 0, _ => exact h0
  | 1, _ => exact h1
  | 2, _ => exact h2
  | 3, _ => exact h3
  | 4, _ => exact h4
  | 5, _ => exact h5
  | 6, _ => exact h6
set_option maxHeartbeats 4000000 in
set_option maxRecDepth 20000 in
theorem hb_start {s : State} {args : Array Value} {b L : Nat} {xs : Nat → Int32} (hts : ∀ w ∈ lw_tbl, w.before args s = true) (hgv : (Jvm.Cond.and given_1 narrow_1).before args s = true) (hX : va_X b L xs s s.heap) (hbl : b < s.heap.size) : ∃ G : hb_G, hb_K G s ∧ hb_base G = s.heap.size ∧ G.2.2.2.1 1 = b ∧ G.2.2.2.2.1 = L ∧ G.2.2.2.2.2 = xs := by
  have hf := flat_of_before _ hgv
  have hA : ∀ a : Nat, a < s.heap.size → ¬ (fun q => s.heap.size ≤ q) a := fun a h => Nat.not_le.mpr h
  obtain ⟨c0, i0, k0⟩ := u_known (C := RX0) (T := TX0) (N := 13) (n := 13) hts inX0 (hts (.instantiable RX0 13) (hb_tin 98 (by decide +kernel)))
  obtain ⟨c1, i1, k1⟩ := u_known (C := RX1) (T := TX1) (N := 8) (n := 8) hts inX1 (hts (.instantiable RX1 8) (hb_tin 242 (by decide +kernel)))
  obtain ⟨c2, i2, k2⟩ := u_known (C := RX2) (T := TX2) (N := 1) (n := 1) hts inX2 (hts (.instantiable RX2 1) (hb_tin 274 (by decide +kernel)))
  obtain ⟨c3, i3, k3⟩ := u_known (C := RX3) (T := TX3) (N := 3) (n := 3) hts inX3 (hts (.instantiable RX3 3) (hb_tin 226 (by decide +kernel)))
  obtain ⟨c4, i4, k4⟩ := u_known (C := RX4) (T := TX4) (N := 13) (n := 13) hts inX4 (hts (.instantiable RX4 13) (hb_tin 38 (by decide +kernel)))
  obtain ⟨c5, i5, k5⟩ := u_known (C := RX5) (T := TX5) (N := 2) (n := 2) hts inX5 (hts (.instantiable RX5 2) (hb_tin 185 (by decide +kernel)))
  obtain ⟨c6, i6, k6⟩ := u_known (C := RX6) (T := TX6) (N := 5) (n := 5) hts inX6 (hts (.instantiable RX6 5) (hb_tin 104 (by decide +kernel)))
  obtain ⟨c7, i7, k7⟩ := u_known (C := RX7) (T := TX7) (N := 4) (n := 4) hts inX7 (hts (.instantiable RX7 4) (hb_tin 202 (by decide +kernel)))
  obtain ⟨c8, i8, k8⟩ := u_known (C := RX8) (T := TX8) (N := 9) (n := 9) hts inX8 (hts (.instantiable RX8 9) (hb_tin 30 (by decide +kernel)))
  obtain ⟨c9, i9, k9⟩ := u_known (C := RX9) (T := TX9) (N := 29) (n := 29) hts inX9 (hts (.instantiable RX9 29) (hb_tin 1319 (by decide +kernel)))
  obtain ⟨dC, dI, hKc⟩ : ∃ (dC : Nat → ClassId) (dI : Nat → Nat → Nat), ∀ (k : Nat) (q : vw_C), vwCl[k]? = some q → u_Kn s q.1 q.2.1 q.2.2 (dC k) (dI k) := by
    refine ⟨fun k => match k with | 0 => c0 | 1 => c1 | 2 => c2 | 3 => c3 | 4 => c4 | 5 => c5 | 6 => c6 | 7 => c7 | 8 => c8 | _ => c9, fun k => match k with | 0 => i0 | 1 => i1 | 2 => i2 | 3 => i3 | 4 => i4 | 5 => i5 | 6 => i6 | 7 => i7 | 8 => i8 | _ => i9, ?_⟩
    intro k q hq
    match k, hq with
    | 0, hq => cases hq; exact k0
    | 1, hq => cases hq; exact k1
    | 2, hq => cases hq; exact k2
    | 3, hq => cases hq; exact k3
    | 4, hq => cases hq; exact k4
    | 5, hq => cases hq; exact k5
    | 6, hq => cases hq; exact k6
    | 7, hq => cases hq; exact k7
    | 8, hq => cases hq; exact k8
    | 9, hq => cases hq; exact k9
    | k + 10, hq => simp [vwCl] at hq
  obtain ⟨a0, ka0, cm0, p01, p02, p03⟩ := Cond.arrayClass_spec (hts (.arrayClass .int) (hb_tin 96 (by decide +kernel)))
  obtain ⟨a1, ka1, cm1, p11, p12, p13⟩ := Cond.arrayClass_spec (hts (.arrayClass .long) (hb_tin 183 (by decide +kernel)))
  obtain ⟨a2, ka2, cm2, p21, p22, p23⟩ := Cond.arrayClass_spec (hts (.arrayClass .boolean) (hb_tin 311 (by decide +kernel)))
  have hao : (Cond.arrayOver (.object RX4)).before args s = true := hts _ (hb_tin 191 (by decide +kernel))
  obtain ⟨cm3, a3, ka3, p31, p32, p33, p34, p35⟩ := Cond.arrayOver_spec hao
  obtain ⟨adK, adV, hvk, hev⟩ := vk_Sof (args := args) (s := s) (N := 3) (tm := hb_tm) (len := hb_slen) (byt := hb_sbyt) (A := fun q => s.heap.size ≤ q)
    (hb_lt3 (by decide) (by decide) (by decide))
    (hb_lt3 (hf _ (by decide +kernel)) (hf _ (by decide +kernel)) (hf _ (by decide +kernel)))
    (hb_lt3 (hf _ (by decide +kernel)) (hf _ (by decide +kernel)) (hf _ (by decide +kernel)))
    (hb_lt3 (hf _ (by decide +kernel)) (hf _ (by decide +kernel)) (hf _ (by decide +kernel)))
    (hb_lt3 (hf _ (by decide +kernel)) (hf _ (by decide +kernel)) (hf _ (by decide +kernel)))
    (hb_lt3 (hb_lt8 (hf _ (by decide +kernel)) (hf _ (by decide +kernel)) (hf _ (by decide +kernel)) (hf _ (by decide +kernel)) (hf _ (by decide +kernel)) (hf _ (by decide +kernel)) (hf _ (by decide +kernel)) (hf _ (by decide +kernel))) (hb_lt3 (hf _ (by decide +kernel)) (hf _ (by decide +kernel)) (hf _ (by decide +kernel))) (hb_lt7 (hf _ (by decide +kernel)) (hf _ (by decide +kernel)) (hf _ (by decide +kernel)) (hf _ (by decide +kernel)) (hf _ (by decide +kernel)) (hf _ (by decide +kernel)) (hf _ (by decide +kernel))))
    (fun i j hi hj hij => by
      match i, j, hi, hj with
      | 0, 0, _, _ => exact absurd rfl hij
      | 0, 1, _, _ => exact Or.inl (hf _ (by decide +kernel))
      | 0, 2, _, _ => exact Or.inl (hf _ (by decide +kernel))
      | 1, 0, _, _ => exact Or.inr (hf _ (by decide +kernel))
      | 1, 1, _, _ => exact absurd rfl hij
      | 1, 2, _, _ => exact Or.inl (hf _ (by decide +kernel))
      | 2, 0, _, _ => exact Or.inr (hf _ (by decide +kernel))
      | 2, 1, _, _ => exact Or.inr (hf _ (by decide +kernel))
      | 2, 2, _, _ => exact absurd rfl hij) hA
  obtain ⟨dA, hdA⟩ : ∃ dA : Nat → ClassId, dA 0 = a0 ∧ dA 1 = a1 ∧ dA 2 = a2 ∧ dA 3 = a3 := ⟨fun k => match k with | 0 => a0 | 1 => a1 | 2 => a2 | _ => a3, rfl, rfl, rfl, rfl⟩
  obtain ⟨dS, hS0, hS1, hSK, hSV⟩ : ∃ dS : Nat → Nat, dS 0 = s.heap.size ∧ dS 1 = b ∧ (∀ i, i < 3 → dS (i + 2) = adK i) ∧ (∀ i, i < 3 → dS (i + 12) = adV i) := by
    refine ⟨fun k => if k = 0 then s.heap.size else if k = 1 then b else if k < 12 then adK (k - 2) else adV (k - 12), rfl, rfl, fun i hi => ?_, fun i hi => ?_⟩
    · simp only [show ¬ (i + 2 = 0) by omega, show ¬ (i + 2 = 1) by omega, show i + 2 < 12 by omega, if_true, if_false]
      rw [show i + 2 - 2 = i by omega]
    · simp only [show ¬ (i + 12 = 0) by omega, show ¬ (i + 12 = 1) by omega, show ¬ (i + 12 < 12) by omega, if_false]
      rw [show i + 12 - 12 = i by omega]
  refine ⟨(dC, dI, dA, dS, L, xs), ?_, hS0, hS1, rfl, rfl⟩
  have hbase : hb_base (dC, dI, dA, dS, L, xs) = s.heap.size := hS0
  have hAG : hb_A (dC, dI, dA, dS, L, xs) = fun q => s.heap.size ≤ q := by funext q; unfold hb_A; rw [hbase]
  refine ⟨⟨hKc, ?_⟩, ?_, ?_, ?_, Nat.le_of_eq hbase, va_AO.of hao, ?_, ?_, ?_, ?_, ?_, ?_, ?_⟩
  · intro k q hq
    match k, hq with
    | 0, hq => cases hq; exact ⟨fun N z => ⟨(fun k h => by cases h), ka0, by rw [show (arrV (dA 0) N z).cls = a0 from hdA.1]; exact p02, cm0, p03⟩, by show s.vm.findClass _ = some (dA 0); rw [hdA.1]; exact p01⟩
    | 1, hq => cases hq; exact ⟨fun N z => ⟨(fun k h => by cases h), ka1, by rw [show (arrV (dA 1) N z).cls = a1 from hdA.2.1]; exact p12, cm1, p13⟩, by show s.vm.findClass _ = some (dA 1); rw [hdA.2.1]; exact p11⟩
    | 2, hq => cases hq; exact ⟨fun N z => ⟨(fun k h => by cases h), ka2, by rw [show (arrV (dA 2) N z).cls = a2 from hdA.2.2.1]; exact p22, cm2, p23⟩, by show s.vm.findClass _ = some (dA 2); rw [hdA.2.2.1]; exact p21⟩
    | 3, hq => cases hq; exact ⟨fun N z => ⟨(fun k h => by cases h), ka3, by rw [show (arrV (dA 3) N z).cls = a3 from hdA.2.2.2]; exact p33, cm3, p34⟩, ka3, cm3, by show s.vm.classes[dA 3]? = _; rw [hdA.2.2.2]; exact p33, p34, p31, by show s.vm.findClass _ = some (dA 3); rw [hdA.2.2.2]; exact p35⟩
    | k + 4, hq => simp [hb_tys] at hq
  · intro w hw
    have h1 := hts w (List.mem_append_right _ (hb_nw_in w hw))
    rcases List.mem_append.mp hw with hw | hw
    · obtain ⟨q, -, rfl⟩ := List.mem_map.mp hw
      exact va_Nw.of rfl h1
    · obtain ⟨q, -, rfl⟩ := List.mem_map.mp hw
      exact va_Nw.of rfl h1
  · rw [hAG]
    exact vx_Zqof (hts _ (hb_tin 856 (by decide +kernel))) (hts _ (hb_tin 12 (by decide +kernel))) (hf _ (by decide +kernel)) hA
  · rw [hAG]
    exact vx_Zqof (hts _ (hb_tin 858 (by decide +kernel))) (hts _ (hb_tin 12 (by decide +kernel))) (hf _ (by decide +kernel)) hA
  · intro q hq
    simp only [hb_str, List.mem_cons, List.not_mem_nil, or_false] at hq
    rcases hq with rfl | rfl | rfl
    · exact vk_R.of (A := args) (hts _ (hb_tin 536 (by decide +kernel))) (by show (hb_tm 0).eval args s none [] s = some (.ref (dS (0 + 2))); rw [hSK 0 (by decide)]; exact hev 0 (by decide))
    · exact vk_R.of (A := args) (hts _ (hb_tin 625 (by decide +kernel))) (by show (hb_tm 1).eval args s none [] s = some (.ref (dS (1 + 2))); rw [hSK 1 (by decide)]; exact hev 1 (by decide))
    · exact vk_R.of (A := args) (hts _ (hb_tin 680 (by decide +kernel))) (by show (hb_tm 2).eval args s none [] s = some (.ref (dS (2 + 2))); rw [hSK 2 (by decide)]; exact hev 2 (by decide))
  · rw [hAG]
    refine ⟨fun i hi => ?_, fun i j hi hj h => hvk.2 i j hi hj ?_⟩
    · show va_O _ (dS (i + 2)) _ _ _ ∧ va_OF _ _ _ _ (dS (i + 2)) _ _ _ ∧ va_OF _ _ _ (.ref (dS (i + 12))) (dS (i + 2)) _ _ _ ∧ va_T _ (dS (i + 12)) _ _ _ _ _
      rw [hSK i hi, hSV i hi]
      exact hvk.1 i hi
    · have h : dS (i + 2) = dS (j + 2) := h
      rw [hSK i hi, hSK j hj] at h
      exact h
  · rw [hAG]
    exact va_Zof (hts _ (hb_tin 554 (by decide +kernel))) (hts _ (hb_tin 24 (by decide +kernel))) (va_eqt (hf (Cond.eq (.static "java/lang/String" "COMPACT_STRINGS" "Z") (.int 1)) (by decide +kernel))) hA
  · show va_X (dS 1) L xs s s.heap
    rw [hS1]
    exact hX
  · show dS 1 < _
    rw [hS1, hbase]
    exact hbl
  · intro w hw
    exact va_Nw.of (hb_xw_ok w hw).1 (hts w (List.mem_append_right _ (hb_xw_in w hw)))
  · intro q hq
    simp only [hb_nc, List.mem_cons, List.not_mem_nil, or_false] at hq
    rcases hq with rfl | rfl | rfl | rfl | rfl | rfl <;> exact va_Nc.of (args := args) (hf _ (by decide +kernel))
