/-! the claim, out of the small machine's run of the law -/
set_option maxHeartbeats 4000000 in
set_option maxRecDepth 20000 in
/-- THE LAW, from its entry: if the small machine's run answers 1, so does the law -/
theorem whole_of {p : Program} {e : Env} {s : State} {m : MethodId} {below : List Frame} {meth : Method} {c : Code} (l : Launch) (hflags : l.flags = flags0) {b L : Nat} {xs : Nat → Int32} {σ9 : hb_M} (hlaw : f_L_law L xs hb_z0 = some (1, σ9)) (C0 : lw_At p s m meth c b L xs) : W p l e room_1 s m #[Value.ref b] below meth c s.heap [] 0 0 (lw_Z below #[Value.ref b] s) (entryFrame m ([Value.ref b] : List Value).toArray 8) := by
  obtain ⟨hx, hb, hr, hml, hown, hts, hX, hbl, hlocks, hgv⟩ := C0
  have hl : l.stackTraces = false := by
    unfold Launch.stackTraces
    rw [hflags]
    decide
  obtain ⟨G, hK, hG0, hG1, hG2, hG3⟩ := hb_start hts hgv hX hbl
  have hlaw2 : f_L_law G.2.2.2.2.1 G.2.2.2.2.2 hb_z0 = some (1, σ9) := by rw [hG2, hG3]; exact hlaw
  have hd0 := Drawn.sameBut.refl s.drawn lw_cs
  have hl0 := lv_entry ([.ref b]) (n := 8) (Nat.le_of_ble_eq_true rfl)
  rw [lg_entry_eq]
  generalize (lg_sl ([.ref b]) ++ List.replicate (8 - (lg_sl ([.ref b])).length) Slot.unset).toArray = ls at hl0 ⊢
  refine W.base ?_
  refine c_L_law hl hlaw2 p e room_1 (s.setDrawn s.drawn) m #[Value.ref b] below meth c (lw_Z below #[Value.ref b] s) ⟨hx, hb, hml, hown, fun w hw => hts w (List.mem_filter.mp hw).1, (fun h => by cases h), hK⟩ (Nat.le_of_ble_eq_true rfl) (Nat.le_of_ble_eq_true rfl) ?_ (fun E hE => by cases hE) s.heap [] 0 0 ls (Nat.le_of_ble_eq_true rfl) (Nat.le_of_ble_eq_true rfl) ⟨?_, va_S.rf, fun _ => ⟨?_, rfl, rfl⟩⟩ ?_
  · intro v hv H locs cells slots pc ls hc hs hD hret
    cases hv
    refine va_forget (fun q hq => ?_) (W.widen (k := 601024) (n := 7293034) hc hs (lw_ret hd0 hx hb hr hlocks hret.1))
    have h9 : hb_base G ≤ q.base := hD.2.1.2.2 q hq
    rw [hG0] at h9
    exact h9
  · intro k q hq
    have hq : ([] : va_W)[k]? = some q := hq
    simp at hq
  · show s.heap.size = hb_base G + 0
    rw [hG0, Nat.add_zero]
  · have h8 : [(0, Value.retAddr 0)].map (hb_tl G) = [(0, Value.ref b)] := by
      show [(0, Value.ref (G.2.2.2.1 1))] = _
      rw [hG1]
    rw [h8]
    exact hl0
