/-! HeapBrowser.refuse: the one method that makes and throws exceptions -/
def mX8_refuse : hb_Y := (yX8_refuse, cX8_refuse, 1, none, [], false)
theorem dX8_refuse_0 : decode cX8_refuse 0 = .ok (.iload_n 0, 1) := by decide +kernel
theorem dX8_refuse_1 : decode cX8_refuse 1 = .ok (.tableswitch 51 1 3 #[27, 35, 43], 27) := by decide +kernel
theorem dX8_refuse_28 : decode cX8_refuse 28 = .ok (.new 359, 3) := by decide +kernel
theorem dX8_refuse_31 : decode cX8_refuse 31 = .ok (.dup, 1) := by decide +kernel
theorem dX8_refuse_32 : decode cX8_refuse 32 = .ok (.invokespecial 361, 3) := by decide +kernel
theorem dX8_refuse_35 : decode cX8_refuse 35 = .ok (.athrow, 1) := by decide +kernel
theorem dX8_refuse_36 : decode cX8_refuse 36 = .ok (.new 362, 3) := by decide +kernel
theorem dX8_refuse_39 : decode cX8_refuse 39 = .ok (.dup, 1) := by decide +kernel
theorem dX8_refuse_40 : decode cX8_refuse 40 = .ok (.invokespecial 364, 3) := by decide +kernel
theorem dX8_refuse_43 : decode cX8_refuse 43 = .ok (.athrow, 1) := by decide +kernel
theorem dX8_refuse_44 : decode cX8_refuse 44 = .ok (.new 365, 3) := by decide +kernel
theorem dX8_refuse_47 : decode cX8_refuse 47 = .ok (.dup, 1) := by decide +kernel
theorem dX8_refuse_48 : decode cX8_refuse 48 = .ok (.invokespecial 367, 3) := by decide +kernel
theorem dX8_refuse_51 : decode cX8_refuse 51 = .ok (.athrow, 1) := by decide +kernel
theorem dX8_refuse_52 : decode cX8_refuse 52 = .ok (.return_, 1) := by decide +kernel
def hb_en : List String := ["java/lang/RuntimeException", "java/lang/Exception"]
theorem hb_xg1 : ∀ w ∈ (vx_at0 RX8 361 hb_e1 hb_en).filter (fun w => !goodWord w), w ∈ hb_xw := by decide +kernel
theorem hb_xg2 : ∀ w ∈ (vx_at0 RX8 364 hb_e2 hb_en).filter (fun w => !goodWord w), w ∈ hb_xw := by decide +kernel
theorem hb_xg3 : ∀ w ∈ (vx_at0 RX8 367 hb_e3 hb_en).filter (fun w => !goodWord w), w ∈ hb_xw := by decide +kernel
theorem hb_xo1 : ∀ w ∈ Cond.classLink RX8 359 hb_e1 :: Cond.initialized hb_e1 :: vx_at0 RX8 361 hb_e1 hb_en, vx_ot w = true := by decide +kernel
theorem hb_xo2 : ∀ w ∈ Cond.classLink RX8 362 hb_e2 :: Cond.initialized hb_e2 :: vx_at0 RX8 364 hb_e2 hb_en, vx_ot w = true := by decide +kernel
theorem hb_xo3 : ∀ w ∈ Cond.classLink RX8 365 hb_e3 :: Cond.initialized hb_e3 :: vx_at0 RX8 367 hb_e3 hb_en, vx_ot w = true := by decide +kernel
theorem hb_xk1 : Cond.classLink RX8 359 hb_e1 ∈ hb_wl := hb_w 829 (by decide +kernel) (by decide +kernel)
theorem hb_xk2 : Cond.classLink RX8 362 hb_e2 ∈ hb_wl := hb_w 892 (by decide +kernel) (by decide +kernel)
theorem hb_xk3 : Cond.classLink RX8 365 hb_e3 ∈ hb_wl := hb_w 907 (by decide +kernel) (by decide +kernel)
theorem hb_xi1 : Cond.initialized hb_e1 ∈ hb_wl := hb_w 15 (by decide +kernel) (by decide +kernel)
theorem hb_xi2 : Cond.initialized hb_e2 ∈ hb_wl := hb_w 16 (by decide +kernel) (by decide +kernel)
theorem hb_xi3 : Cond.initialized hb_e3 ∈ hb_wl := hb_w 17 (by decide +kernel) (by decide +kernel)
theorem hb_hat {args : Array Value} {s : State} {L : List Cond} (hts : ∀ w ∈ hb_wl, w.before args s = true) (h1 : ∀ w ∈ L.filter goodWord, w ∈ lw_tbl) (h2 : ∀ w ∈ L.filter (fun w => !goodWord w), w ∈ hb_xw) (h3 : ∀ w ∈ hb_xw, va_Nw w s) : ∀ w ∈ L, w.before args s = true :=
  vx_hat (B := hb_xw) (fun w hw => hts w (hb_w0 (h1 w hw) (List.mem_filter.mp hw).2)) h2 (fun w hw => va_Nw.use (hb_xw_ok w hw).1 (h3 w hw))
set_option maxHeartbeats 4000000 in
set_option maxRecDepth 20000 in
theorem c_X8_refuse {G : hb_G} {l : Launch} (hl : l.stackTraces = false) {x0 : Int32} {σ : hb_M} {r : (String ⊕ Unit) × hb_M} (h : f_X8_refuse x0 σ = some r) : hb_Call G l true 0 1 6 mX8_refuse [.int x0] σ (hb_xv r) := by
  refine vx_ofW (cc := cX8_refuse) (maxL := 1) (ret := none) (by decide) rfl ?_
  intro p e s m args below meth c s₁ B hml hx hv
  obtain ⟨rfl, hSt, hK⟩ := hv
  have hts0 := atoms_spec (ws := Cond.code mX8_refuse.1 mX8_refuse.2.1 mX8_refuse.2.2.1 mX8_refuse.2.2.2.1 :: hb_wl) B.pre
  have hts := fun (w : Cond) (hw : w ∈ hb_wl) => hts0 w (List.mem_cons_of_mem _ hw)
  have hown : s.vm.findClass RX8 = some m.cls := findClass_of_methodNamed B.named
  have hlocks := B.notSynchronized
  have hl0 := lv_entry ([.int x0]) (n := 1) (Nat.le_of_ble_eq_true rfl)
  rw [lg_entry_eq]
  have hl9 : lv_has ((lg_sl ([Value.int x0].map (hb_tr G)) ++ List.replicate (1 - (lg_sl ([Value.int x0].map (hb_tr G))).length) Slot.unset).toArray) 1 [(0, .int x0)] := hl0
  generalize (lg_sl ([Value.int x0].map (hb_tr G)) ++ List.replicate (1 - (lg_sl ([Value.int x0].map (hb_tr G))).length) Slot.unset).toArray = ls at hl9 ⊢
  refine lv_iload_n B.exec B.bytes dX8_refuse_0 rfl (lv_at hl9 0 rfl) ?_
  have hxx : ∀ (E : String) (t : State), s.vm.Alike t.vm → s.heap.size ≤ t.heap.size → (∀ q : Nat, q < s.heap.size → t.heap[q]? = s.heap[q]?) → hb_X G true (hb_xv (.inl E, σ)) E s t := by
    intro E t _ hz ho
    exact ⟨rfl, ⟨hSt.1.kept (fun k x hx9 => ho x.1 ((hSt.1 k x hx9).lt)), fun h9 => by cases h9⟩, ⟨hz, fun q h1 _ => ho q h1⟩, rfl⟩
  unfold f_X8_refuse at h
  by_cases h1 : x0 = 1
  · rw [if_pos h1] at h
    obtain rfl := Option.some.inj h
    refine lv_tableIn (off := 27) (tgt := 28) B.exec B.bytes dX8_refuse_1 (by rw [h1]; decide) (by rw [h1]; decide) (by rw [h1]; decide) (by decide) ?_
    exact vx_throw0 (own := RX8) (cls := hb_e1) (names := hb_en) (ik := 359) (ic := 361) (A := hb_A G) B.exec B.bytes hl hown (by decide +kernel) (by decide +kernel) (hts _ hb_xk1) (hts _ hb_xi1) (hb_hat hts wsL_law_x0 hb_xg1 hK.2.2.2.2.2.2.2.2.2.2.2.1) hb_xo1 hK.2.2.1 hK.2.2.2.1 va_S.rf (by rw [hml]; exact hl9.1) dX8_refuse_28 dX8_refuse_31 dX8_refuse_32 dX8_refuse_35 (fun x h9 => (hx x h9).elim) (Nat.le_of_ble_eq_true rfl) (Nat.le_of_ble_eq_true rfl) (Nat.le_refl _) (Nat.le_refl _) hlocks (hxx hb_e1) (fun z h9 => by cases h9) (Nat.le_refl _) (Nat.le_refl _)
  rw [if_neg h1] at h
  by_cases h2 : x0 = 2
  · rw [if_pos h2] at h
    obtain rfl := Option.some.inj h
    refine lv_tableIn (off := 35) (tgt := 36) B.exec B.bytes dX8_refuse_1 (by rw [h2]; decide) (by rw [h2]; decide) (by rw [h2]; decide) (by decide) ?_
    exact vx_throw0 (own := RX8) (cls := hb_e2) (names := hb_en) (ik := 362) (ic := 364) (A := hb_A G) B.exec B.bytes hl hown (by decide +kernel) (by decide +kernel) (hts _ hb_xk2) (hts _ hb_xi2) (hb_hat hts wsL_law_x1 hb_xg2 hK.2.2.2.2.2.2.2.2.2.2.2.1) hb_xo2 hK.2.2.1 hK.2.2.2.1 va_S.rf (by rw [hml]; exact hl9.1) dX8_refuse_36 dX8_refuse_39 dX8_refuse_40 dX8_refuse_43 (fun x h9 => (hx x h9).elim) (Nat.le_of_ble_eq_true rfl) (Nat.le_of_ble_eq_true rfl) (Nat.le_refl _) (Nat.le_refl _) hlocks (hxx hb_e2) (fun z h9 => by cases h9) (Nat.le_refl _) (Nat.le_refl _)
  rw [if_neg h2] at h
  by_cases h3 : x0 = 3
  · rw [if_pos h3] at h
    obtain rfl := Option.some.inj h
    refine lv_tableIn (off := 43) (tgt := 44) B.exec B.bytes dX8_refuse_1 (by rw [h3]; decide) (by rw [h3]; decide) (by rw [h3]; decide) (by decide) ?_
    exact vx_throw0 (own := RX8) (cls := hb_e3) (names := hb_en) (ik := 365) (ic := 367) (A := hb_A G) B.exec B.bytes hl hown (by decide +kernel) (by decide +kernel) (hts _ hb_xk3) (hts _ hb_xi3) (hb_hat hts wsL_law_x2 hb_xg3 hK.2.2.2.2.2.2.2.2.2.2.2.1) hb_xo3 hK.2.2.1 hK.2.2.2.1 va_S.rf (by rw [hml]; exact hl9.1) dX8_refuse_44 dX8_refuse_47 dX8_refuse_48 dX8_refuse_51 (fun x h9 => (hx x h9).elim) (Nat.le_of_ble_eq_true rfl) (Nat.le_of_ble_eq_true rfl) (Nat.le_refl _) (Nat.le_refl _) hlocks (hxx hb_e3) (fun z h9 => by cases h9) (Nat.le_refl _) (Nat.le_refl _)
  rw [if_neg h3] at h
  obtain rfl := Option.some.inj h
  have hout : x0.toInt < 1 ∨ 3 < x0.toInt := by
    have g1 : x0.toInt ≠ 1 := fun h9 => h1 (Int32.toInt_inj.mp h9)
    have g2 : x0.toInt ≠ 2 := fun h9 => h2 (Int32.toInt_inj.mp h9)
    have g3 : x0.toInt ≠ 3 := fun h9 => h3 (Int32.toInt_inj.mp h9)
    omega
  refine lv_tableOut (tgt := 52) B.exec B.bytes dX8_refuse_1 hout (by decide) ?_
  refine vx_ret (W.widen (k := 1) (n := 6) (Nat.zero_le _) (Nat.zero_le _) ?_)
  exact W.vret B.exec B.bytes B.returns (fun t ht _ => ⟨⟨none, rfl, rfl⟩, ⟨by rw [ht]; exact hSt.1, fun h9 => by cases h9⟩, va_S.rf.F ht, fun h9 => by cases h9⟩) (fun q h9 => by cases h9) dX8_refuse_52 hlocks
