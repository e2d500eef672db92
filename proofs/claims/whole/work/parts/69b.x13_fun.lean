theorem okX7_number : hb_okV mX7_number 1 := ⟨⟨hb_w 7 (by decide +kernel) (by decide +kernel), hb_w 515 (by decide +kernel) (by decide +kernel), ⟨by decide +kernel, by decide +kernel, by decide +kernel⟩, by decide⟩, hb_w 513 (by decide +kernel) (by decide +kernel), hb_w 514 (by decide +kernel) (by decide +kernel)⟩
theorem okX7_expect : hb_okV mX7_expect 1 := ⟨⟨hb_w 7 (by decide +kernel) (by decide +kernel), hb_w 505 (by decide +kernel) (by decide +kernel), ⟨by decide +kernel, by decide +kernel, by decide +kernel⟩, by decide⟩, hb_w 503 (by decide +kernel) (by decide +kernel), hb_w 504 (by decide +kernel) (by decide +kernel)⟩
theorem okX7_oneOf : hb_okV mX7_oneOf 1 := ⟨⟨hb_w 7 (by decide +kernel) (by decide +kernel), hb_w 540 (by decide +kernel) (by decide +kernel), ⟨by decide +kernel, by decide +kernel, by decide +kernel⟩, by decide⟩, hb_w 538 (by decide +kernel) (by decide +kernel), hb_w 539 (by decide +kernel) (by decide +kernel)⟩
theorem okX7_atEnd : hb_okV mX7_atEnd 0 := ⟨⟨hb_w 7 (by decide +kernel) (by decide +kernel), hb_w 640 (by decide +kernel) (by decide +kernel), ⟨by decide +kernel, by decide +kernel, by decide +kernel⟩, by decide⟩, hb_w 638 (by decide +kernel) (by decide +kernel), hb_w 639 (by decide +kernel) (by decide +kernel)⟩
theorem okX7_begin : hb_okV mX7_begin 0 := ⟨⟨hb_w 7 (by decide +kernel) (by decide +kernel), hb_w 477 (by decide +kernel) (by decide +kernel), ⟨by decide +kernel, by decide +kernel, by decide +kernel⟩, by decide⟩, hb_w 475 (by decide +kernel) (by decide +kernel), hb_w 476 (by decide +kernel) (by decide +kernel)⟩
theorem okX4_problemOfUnrooting : hb_okV mX4_problemOfUnrooting 2 := ⟨⟨hb_w 2 (by decide +kernel) (by decide +kernel), hb_w 731 (by decide +kernel) (by decide +kernel), ⟨by decide +kernel, by decide +kernel, by decide +kernel⟩, by decide⟩, hb_w 729 (by decide +kernel) (by decide +kernel), hb_w 730 (by decide +kernel) (by decide +kernel)⟩
theorem okX4_problemOfArray : hb_okV mX4_problemOfArray 1 := ⟨⟨hb_w 2 (by decide +kernel) (by decide +kernel), hb_w 711 (by decide +kernel) (by decide +kernel), ⟨by decide +kernel, by decide +kernel, by decide +kernel⟩, by decide⟩, hb_w 709 (by decide +kernel) (by decide +kernel), hb_w 710 (by decide +kernel) (by decide +kernel)⟩
theorem okX4_problemOfInstance : hb_okV mX4_problemOfInstance 1 := ⟨⟨hb_w 2 (by decide +kernel) (by decide +kernel), hb_w 701 (by decide +kernel) (by decide +kernel), ⟨by decide +kernel, by decide +kernel, by decide +kernel⟩, by decide⟩, hb_w 699 (by decide +kernel) (by decide +kernel), hb_w 700 (by decide +kernel) (by decide +kernel)⟩
theorem okX4_problemOfTarget : hb_okV mX4_problemOfTarget 3 := ⟨⟨hb_w 2 (by decide +kernel) (by decide +kernel), hb_w 716 (by decide +kernel) (by decide +kernel), ⟨by decide +kernel, by decide +kernel, by decide +kernel⟩, by decide⟩, hb_w 714 (by decide +kernel) (by decide +kernel), hb_w 715 (by decide +kernel) (by decide +kernel)⟩
theorem okX0_removeGarbage : hb_okV mX0_removeGarbage 0 := ⟨⟨hb_w 4 (by decide +kernel) (by decide +kernel), hb_w 342 (by decide +kernel) (by decide +kernel), ⟨by decide +kernel, by decide +kernel, by decide +kernel⟩, by decide⟩, hb_w 340 (by decide +kernel) (by decide +kernel), hb_w 341 (by decide +kernel) (by decide +kernel)⟩
theorem okX4_membersOf : hb_okV mX4_membersOf 2 := ⟨⟨hb_w 2 (by decide +kernel) (by decide +kernel), hb_w 527 (by decide +kernel) (by decide +kernel), ⟨by decide +kernel, by decide +kernel, by decide +kernel⟩, by decide⟩, hb_w 525 (by decide +kernel) (by decide +kernel), hb_w 526 (by decide +kernel) (by decide +kernel)⟩
def mX3_filter : hb_Y := (yX3_filter, cX3_filter, 5, (some .long), [], false)
theorem okX3_filter : hb_okV mX3_filter 1 := ⟨⟨hb_w 8 (by decide +kernel) (by decide +kernel), hb_w 481 (by decide +kernel) (by decide +kernel), ⟨by decide +kernel, by decide +kernel, by decide +kernel⟩, by decide⟩, hb_w 480 (by decide +kernel) (by decide +kernel), hb_wp (q := (yX3_filter, 3)) 10 (by decide +kernel) (by decide +kernel)⟩
def mX1_init : hb_Y := (yX1_init, cX1_init, 4, none, [], false)
set_option maxHeartbeats 4000000 in
set_option maxRecDepth 20000 in
theorem c_X1_init {G : hb_G} {l : Launch} {x0 : Nat} {x1 : Nat} {x2 : Nat} {x3 : Nat} {σ : hb_M} {r : hb_M} (h : f_X1_init x0 x1 x2 x3 σ = some r) : hb_Call G l false 0 4 400 mX1_init [.ref x0, .ref x1, .ref x2, .ref x3] σ (.inl none, r) := by
  refine hb_met (by decide) (Nat.le_of_ble_eq_true rfl) ?_
  unfold f_X1_init at h
  refine hs_aload_n dX1_init_0 0 rfl ?_
  refine hs_objInit dX1_init_1 wd_246 hb_oi1 hb_oi2 (Nat.le_of_ble_eq_true rfl) ?_
  refine hs_aload_n dX1_init_4 0 rfl ?_
  refine hs_bipush (v := (100 : Int32)) dX1_init_5 (by decide) ?_
  obtain ⟨r1, h1, h⟩ := hb_bind h
  refine hs_newI (rc := 3) (rs := 300) (k := 100) dX1_init_7 wd_96 h1 (by decide) ?_
  obtain ⟨r2, h2, h⟩ := hb_bind h
  refine hs_putR dX1_init_9 lpX1_init_9 rfl h2 ?_
  refine hs_aload_n dX1_init_12 0 rfl ?_
  refine hs_bipush (v := (100 : Int32)) dX1_init_13 (by decide) ?_
  obtain ⟨r3, h3, h⟩ := hb_bind h
  refine hs_newI (rc := 2) (rs := 200) (k := 100) dX1_init_15 wd_96 h3 (by decide) ?_
  obtain ⟨r4, h4, h⟩ := hb_bind h
  refine hs_putR dX1_init_17 lpX1_init_15 rfl h4 ?_
  refine hs_aload_n dX1_init_20 0 rfl ?_
  refine hs_bipush (v := (100 : Int32)) dX1_init_21 (by decide) ?_
  obtain ⟨r5, h5, h⟩ := hb_bind h
  refine hs_newI (rc := 1) (rs := 100) (k := 100) dX1_init_23 wd_96 h5 (by decide) ?_
  obtain ⟨r6, h6, h⟩ := hb_bind h
  refine hs_putR dX1_init_25 lpX1_init_18 rfl h6 ?_
  refine hs_aload_n dX1_init_28 0 rfl ?_
  refine hs_bipush (v := (100 : Int32)) dX1_init_29 (by decide) ?_
  obtain ⟨r7, h7, h⟩ := hb_bind h
  refine hs_newI (rc := 0) (rs := 0) (k := 100) dX1_init_31 wd_96 h7 (by decide) ?_
  obtain ⟨r8, h8, h⟩ := hb_bind h
  refine hs_putR dX1_init_33 lpX1_init_21 rfl h8 ?_
  refine hs_aload_n dX1_init_36 0 rfl ?_
  refine hs_aload_n dX1_init_37 1 rfl ?_
  obtain ⟨r9, h9, h⟩ := hb_bind h
  refine hs_putR dX1_init_38 lpX1_init_24 rfl h9 ?_
  refine hs_aload_n dX1_init_41 0 rfl ?_
  refine hs_aload_n dX1_init_42 2 rfl ?_
  obtain ⟨r10, h10, h⟩ := hb_bind h
  refine hs_putR dX1_init_43 lpX1_init_28 rfl h10 ?_
  refine hs_aload_n dX1_init_46 0 rfl ?_
  refine hs_aload_n dX1_init_47 3 rfl ?_
  obtain ⟨r11, h11, h⟩ := hb_bind h
  refine hs_putR dX1_init_48 lpX1_init_32 rfl h11 ?_
  obtain rfl := Option.some.inj h
  exact hs_return dX1_init_51 rfl (fun _ => rfl)
def mX1_readPair : hb_Y := (yX1_readPair, cX1_readPair, 1, none, [], false)
theorem okX1_readPair : hb_okV mX1_readPair 0 := ⟨⟨hb_w 9 (by decide +kernel) (by decide +kernel), hb_w 686 (by decide +kernel) (by decide +kernel), ⟨by decide +kernel, by decide +kernel, by decide +kernel⟩, by decide⟩, hb_w 685 (by decide +kernel) (by decide +kernel), hb_wp (q := (yX1_readPair, 8)) 19 (by decide +kernel) (by decide +kernel)⟩
set_option maxHeartbeats 4000000 in
set_option maxRecDepth 20000 in
theorem c_X1_readPair {G : hb_G} {l : Launch} {z : Bool} {x0 : Nat} {σ : hb_M} {r : hb_M} (h : f_X1_readPair x0 σ = some r) : hb_Call G l z 3 0 0 mX1_readPair [.ref x0] σ (.inl none, r) := by
  refine hb_met (by decide) (Nat.le_of_ble_eq_true rfl) ?_
  unfold f_X1_readPair at h
  refine hs_aload_n dX1_readPair_0 0 rfl ?_
  obtain ⟨r1, h1, h⟩ := hb_bind h
  refine hs_getR dX1_readPair_1 lkX1_15 rfl h1 ?_
  refine hs_aload_n dX1_readPair_4 0 rfl ?_
  obtain ⟨r2, h2, h⟩ := hb_bind h
  refine hs_getI dX1_readPair_5 lkX1_41 rfl h2 ?_
  refine hs_aload_n dX1_readPair_8 0 rfl ?_
  obtain ⟨r3, h3, h⟩ := hb_bind h
  refine hs_getR dX1_readPair_9 lkX1_32 rfl h3 ?_
  refine hs_iconst (v := (2 : Int32)) dX1_readPair_12 (by decide) ?_
  obtain ⟨r4, h4, h⟩ := hb_bind h
  obtain ⟨h4, nf4, hb4⟩ := hb_on_at h4
  refine hs_callVi (μ' := mX7_number) (mc := 0) (ms := 0) (rc := 0) (rs := 0) (As := [.int (2 : Int32)]) (rest := [.int r2, .ref r1]) (ci := 7) dX1_readPair_13 lmX1_62 okX7_number rfl (by decide) rfl (Nat.le_of_ble_eq_true rfl) rfl hb4 (c_X7_number h4) ?_
  obtain ⟨r5, h5, h⟩ := hb_bind h
  refine hs_iast dX1_readPair_16 h5 ?_
  refine hs_aload_n dX1_readPair_17 0 rfl ?_
  obtain ⟨r6, h6, h⟩ := hb_bind h
  refine hs_getR dX1_readPair_18 lkX1_32 rfl h6 ?_
  refine hs_bipush (v := (44 : Int32)) dX1_readPair_21 (by decide) ?_
  obtain ⟨r7, h7, h⟩ := hb_bind h
  obtain ⟨h7, nf7, hb7⟩ := hb_on_at h7
  refine hs_callVv (μ' := mX7_expect) (mc := 0) (ms := 0) (rc := 0) (rs := 0) (As := [.int (44 : Int32)]) (rest := []) (ci := 7) dX1_readPair_23 lmX1_69 okX7_expect rfl (by decide) rfl (Nat.le_of_ble_eq_true rfl) rfl hb7 (c_X7_expect h7) ?_
  refine hs_aload_n dX1_readPair_26 0 rfl ?_
  obtain ⟨r8, h8, h⟩ := hb_bind h
  refine hs_getR dX1_readPair_27 lkX1_18 rfl h8 ?_
  refine hs_aload_n dX1_readPair_30 0 rfl ?_
  obtain ⟨r9, h9, h⟩ := hb_bind h
  refine hs_getI dX1_readPair_31 lkX1_41 rfl h9 ?_
  refine hs_aload_n dX1_readPair_34 0 rfl ?_
  obtain ⟨r10, h10, h⟩ := hb_bind h
  refine hs_getR dX1_readPair_35 lkX1_32 rfl h10 ?_
  refine hs_iconst (v := (2 : Int32)) dX1_readPair_38 (by decide) ?_
  obtain ⟨r11, h11, h⟩ := hb_bind h
  obtain ⟨h11, nf11, hb11⟩ := hb_on_at h11
  refine hs_callVi (μ' := mX7_number) (mc := 0) (ms := 0) (rc := 0) (rs := 0) (As := [.int (2 : Int32)]) (rest := [.int r9, .ref r8]) (ci := 7) dX1_readPair_39 lmX1_62 okX7_number rfl (by decide) rfl (Nat.le_of_ble_eq_true rfl) rfl hb11 (c_X7_number h11) ?_
  obtain ⟨r12, h12, h⟩ := hb_bind h
  refine hs_iast dX1_readPair_42 h12 ?_
  obtain rfl := Option.some.inj h
  exact hs_return dX1_readPair_43 rfl (fun _ => rfl)
def mX1_readOne : hb_Y := (yX1_readOne, cX1_readOne, 1, none, [], false)
theorem okX1_readOne : hb_okV mX1_readOne 0 := ⟨⟨hb_w 9 (by decide +kernel) (by decide +kernel), hb_w 679 (by decide +kernel) (by decide +kernel), ⟨by decide +kernel, by decide +kernel, by decide +kernel⟩, by decide⟩, hb_w 678 (by decide +kernel) (by decide +kernel), hb_wp (q := (yX1_readOne, 8)) 18 (by decide +kernel) (by decide +kernel)⟩
set_option maxHeartbeats 4000000 in
set_option maxRecDepth 20000 in
theorem c_X1_readOne_b152 {G : hb_G} {l : Launch} {z : Bool}  {x0 : Nat} {σ : hb_M} {r : hb_M} (h : f_X1_readOne_b152 x0 σ = some r) : hb_T G l z mX1_readOne 5 0 0 152 [(0, .ref x0)] [] σ (.inl none, r) := by
  unfold f_X1_readOne_b152 at h
  refine hs_aload_n dX1_readOne_152 0 rfl ?_
  obtain ⟨r1, h1, h⟩ := hb_bind h
  refine hs_getR dX1_readOne_153 lkX1_32 rfl h1 ?_
  refine hs_bipush (v := (59 : Int32)) dX1_readOne_156 (by decide) ?_
  obtain ⟨r2, h2, h⟩ := hb_bind h
  obtain ⟨h2, nf2, hb2⟩ := hb_on_at h2
  refine hs_callVv (μ' := mX7_expect) (mc := 0) (ms := 0) (rc := 0) (rs := 0) (As := [.int (59 : Int32)]) (rest := []) (ci := 7) dX1_readOne_158 lmX1_69 okX7_expect rfl (by decide) rfl (Nat.le_of_ble_eq_true rfl) rfl hb2 (c_X7_expect h2) ?_
  obtain rfl := Option.some.inj h
  exact hs_return dX1_readOne_161 rfl (fun _ => rfl)
set_option maxHeartbeats 4000000 in
set_option maxRecDepth 20000 in
theorem c_X1_readOne_b141 {G : hb_G} {l : Launch} {z : Bool}  {x0 : Nat} {s0 : Nat} {s1 : Int32} {s2 : Int32} {σ : hb_M} {r : hb_M} (h : f_X1_readOne_b141 x0 s0 s1 s2 σ = some r) : hb_T G l z mX1_readOne 5 0 0 141 [(0, .ref x0)] [.int s2, .int s1, .ref s0] σ (.inl none, r) := by
  unfold f_X1_readOne_b141 at h
  obtain ⟨r1, h1, h⟩ := hb_bind h
  refine hs_iast dX1_readOne_141 h1 ?_
  refine hs_goto (tgt := 152) dX1_readOne_142 (by decide) ?_
  refine hs_sub (lv' := [(0, .ref x0)]) [0] rfl ?_
  exact c_X1_readOne_b152 h
set_option maxHeartbeats 4000000 in
set_option maxRecDepth 20000 in
theorem c_X1_readOne {G : hb_G} {l : Launch} {z : Bool} {x0 : Nat} {σ : hb_M} {r : hb_M} (h : f_X1_readOne x0 σ = some r) : hb_Call G l z 5 0 0 mX1_readOne [.ref x0] σ (.inl none, r) := by
  refine hb_met (by decide) (Nat.le_of_ble_eq_true rfl) ?_
  unfold f_X1_readOne at h
  refine hs_aload_n dX1_readOne_0 0 rfl ?_
  obtain ⟨r1, h1, h⟩ := hb_bind h
  refine hs_getR dX1_readOne_1 lkX1_9 rfl h1 ?_
  refine hs_aload_n dX1_readOne_4 0 rfl ?_
  obtain ⟨r2, h2, h⟩ := hb_bind h
  refine hs_getI dX1_readOne_5 lkX1_41 rfl h2 ?_
  refine hs_aload_n dX1_readOne_8 0 rfl ?_
  obtain ⟨r3, h3, h⟩ := hb_bind h
  refine hs_getR dX1_readOne_9 lkX1_32 rfl h3 ?_
  refine hs_ldcS dX1_readOne_12 (i := 2) (tx := "nawcs+-") (by decide +kernel) ?_
  obtain ⟨r4, h4, h⟩ := hb_bind h
  obtain ⟨h4, nf4, hb4⟩ := hb_on_at h4
  refine hs_callVi (μ' := mX7_oneOf) (mc := 0) (ms := 0) (rc := 0) (rs := 0) (As := [.retAddr 3]) (rest := [.int r2, .ref r1]) (ci := 7) dX1_readOne_14 lmX1_58 okX7_oneOf rfl (by decide) rfl (Nat.le_of_ble_eq_true rfl) rfl hb4 (c_X7_oneOf h4) ?_
  obtain ⟨r5, h5, h⟩ := hb_bind h
  refine hs_iast dX1_readOne_17 h5 ?_
  refine hs_aload_n dX1_readOne_18 0 rfl ?_
  obtain ⟨r6, h6, h⟩ := hb_bind h
  refine hs_getR dX1_readOne_19 lkX1_9 rfl h6 ?_
  refine hs_aload_n dX1_readOne_22 0 rfl ?_
  obtain ⟨r7, h7, h⟩ := hb_bind h
  refine hs_getI dX1_readOne_23 lkX1_41 rfl h7 ?_
  obtain ⟨r8, h8, h⟩ := hb_bind h
  refine hs_iald dX1_readOne_26 h8 ?_
  by_cases hc9 : r8 = (43 : Int32)
  · rw [if_pos hc9] at h
    refine hs_lkpC (tgt := 145) (off := 118) (43 : Int32) dX1_readOne_27 (by decide) hc9 (by decide) (by decide) ?_
    refine hs_aload_n dX1_readOne_145 0 rfl ?_
    obtain ⟨r10, h10, h⟩ := hb_bind h
    obtain ⟨h10, nf10, hb10⟩ := hb_on_at h10
    refine hs_callVv (μ' := mX1_readPair) (mc := 0) (ms := 0) (rc := 0) (rs := 0) (As := []) (rest := []) (ci := 1) dX1_readOne_146 lmX1_66 okX1_readPair rfl (by decide) rfl (Nat.le_of_ble_eq_true rfl) rfl hb10 (c_X1_readPair h10) ?_
    refine hs_goto (tgt := 152) dX1_readOne_149 (by decide) ?_
    refine hs_sub (lv' := [(0, .ref x0)]) [0] rfl ?_
    exact c_X1_readOne_b152 h
  rw [if_neg hc9] at h
  by_cases hc11 : r8 = (45 : Int32)
  · rw [if_pos hc11] at h
    refine hs_lkpC (tgt := 145) (off := 118) (45 : Int32) dX1_readOne_27 (by decide) hc11 (by decide) (by decide) ?_
    refine hs_aload_n dX1_readOne_145 0 rfl ?_
    obtain ⟨r12, h12, h⟩ := hb_bind h
    obtain ⟨h12, nf12, hb12⟩ := hb_on_at h12
    refine hs_callVv (μ' := mX1_readPair) (mc := 0) (ms := 0) (rc := 0) (rs := 0) (As := []) (rest := []) (ci := 1) dX1_readOne_146 lmX1_66 okX1_readPair rfl (by decide) rfl (Nat.le_of_ble_eq_true rfl) rfl hb12 (c_X1_readPair h12) ?_
    refine hs_goto (tgt := 152) dX1_readOne_149 (by decide) ?_
    refine hs_sub (lv' := [(0, .ref x0)]) [0] rfl ?_
    exact c_X1_readOne_b152 h
  rw [if_neg hc11] at h
  by_cases hc13 : r8 = (97 : Int32)
  · rw [if_pos hc13] at h
    refine hs_lkpC (tgt := 76) (off := 49) (97 : Int32) dX1_readOne_27 (by decide) hc13 (by decide) (by decide) ?_
    refine hs_aload_n dX1_readOne_76 0 rfl ?_
    obtain ⟨r14, h14, h⟩ := hb_bind h
    refine hs_getR dX1_readOne_77 lkX1_15 rfl h14 ?_
    refine hs_aload_n dX1_readOne_80 0 rfl ?_
    obtain ⟨r15, h15, h⟩ := hb_bind h
    refine hs_getI dX1_readOne_81 lkX1_41 rfl h15 ?_
    refine hs_aload_n dX1_readOne_84 0 rfl ?_
    obtain ⟨r16, h16, h⟩ := hb_bind h
    refine hs_getR dX1_readOne_85 lkX1_32 rfl h16 ?_
    refine hs_iconst (v := (1 : Int32)) dX1_readOne_88 (by decide) ?_
    obtain ⟨r17, h17, h⟩ := hb_bind h
    obtain ⟨h17, nf17, hb17⟩ := hb_on_at h17
    refine hs_callVi (μ' := mX7_number) (mc := 0) (ms := 0) (rc := 0) (rs := 0) (As := [.int (1 : Int32)]) (rest := [.int r15, .ref r14]) (ci := 7) dX1_readOne_89 lmX1_62 okX7_number rfl (by decide) rfl (Nat.le_of_ble_eq_true rfl) rfl hb17 (c_X7_number h17) ?_
    obtain ⟨r18, h18, h⟩ := hb_bind h
    refine hs_iast dX1_readOne_92 h18 ?_
    refine hs_goto (tgt := 152) dX1_readOne_93 (by decide) ?_
    refine hs_sub (lv' := [(0, .ref x0)]) [0] rfl ?_
    exact c_X1_readOne_b152 h
  rw [if_neg hc13] at h
  by_cases hc19 : r8 = (110 : Int32)
  · rw [if_pos hc19] at h
    refine hs_lkpC (tgt := 76) (off := 49) (110 : Int32) dX1_readOne_27 (by decide) hc19 (by decide) (by decide) ?_
    refine hs_aload_n dX1_readOne_76 0 rfl ?_
    obtain ⟨r20, h20, h⟩ := hb_bind h
    refine hs_getR dX1_readOne_77 lkX1_15 rfl h20 ?_
    refine hs_aload_n dX1_readOne_80 0 rfl ?_
    obtain ⟨r21, h21, h⟩ := hb_bind h
    refine hs_getI dX1_readOne_81 lkX1_41 rfl h21 ?_
    refine hs_aload_n dX1_readOne_84 0 rfl ?_
    obtain ⟨r22, h22, h⟩ := hb_bind h
    refine hs_getR dX1_readOne_85 lkX1_32 rfl h22 ?_
    refine hs_iconst (v := (1 : Int32)) dX1_readOne_88 (by decide) ?_
    obtain ⟨r23, h23, h⟩ := hb_bind h
    obtain ⟨h23, nf23, hb23⟩ := hb_on_at h23
    refine hs_callVi (μ' := mX7_number) (mc := 0) (ms := 0) (rc := 0) (rs := 0) (As := [.int (1 : Int32)]) (rest := [.int r21, .ref r20]) (ci := 7) dX1_readOne_89 lmX1_62 okX7_number rfl (by decide) rfl (Nat.le_of_ble_eq_true rfl) rfl hb23 (c_X7_number h23) ?_
    obtain ⟨r24, h24, h⟩ := hb_bind h
    refine hs_iast dX1_readOne_92 h24 ?_
    refine hs_goto (tgt := 152) dX1_readOne_93 (by decide) ?_
    refine hs_sub (lv' := [(0, .ref x0)]) [0] rfl ?_
    exact c_X1_readOne_b152 h
  rw [if_neg hc19] at h
  by_cases hc25 : r8 = (115 : Int32)
  · rw [if_pos hc25] at h
    refine hs_lkpC (tgt := 96) (off := 69) (115 : Int32) dX1_readOne_27 (by decide) hc25 (by decide) (by decide) ?_
    refine hs_aload_n dX1_readOne_96 0 rfl ?_
    obtain ⟨r26, h26, h⟩ := hb_bind h
    obtain ⟨h26, nf26, hb26⟩ := hb_on_at h26
    refine hs_callVv (μ' := mX1_readPair) (mc := 0) (ms := 0) (rc := 0) (rs := 0) (As := []) (rest := []) (ci := 1) dX1_readOne_97 lmX1_66 okX1_readPair rfl (by decide) rfl (Nat.le_of_ble_eq_true rfl) rfl hb26 (c_X1_readPair h26) ?_
    refine hs_aload_n dX1_readOne_100 0 rfl ?_
    obtain ⟨r27, h27, h⟩ := hb_bind h
    refine hs_getR dX1_readOne_101 lkX1_32 rfl h27 ?_
    refine hs_bipush (v := (44 : Int32)) dX1_readOne_104 (by decide) ?_
    obtain ⟨r28, h28, h⟩ := hb_bind h
    obtain ⟨h28, nf28, hb28⟩ := hb_on_at h28
    refine hs_callVv (μ' := mX7_expect) (mc := 0) (ms := 0) (rc := 0) (rs := 0) (As := [.int (44 : Int32)]) (rest := []) (ci := 7) dX1_readOne_106 lmX1_69 okX7_expect rfl (by decide) rfl (Nat.le_of_ble_eq_true rfl) rfl hb28 (c_X7_expect h28) ?_
    refine hs_aload_n dX1_readOne_109 0 rfl ?_
    obtain ⟨r29, h29, h⟩ := hb_bind h
    refine hs_getR dX1_readOne_110 lkX1_21 rfl h29 ?_
    refine hs_aload_n dX1_readOne_113 0 rfl ?_
    obtain ⟨r30, h30, h⟩ := hb_bind h
    refine hs_getI dX1_readOne_114 lkX1_41 rfl h30 ?_
    refine hs_aload_n dX1_readOne_117 0 rfl ?_
    obtain ⟨r31, h31, h⟩ := hb_bind h
    refine hs_getR dX1_readOne_118 lkX1_32 rfl h31 ?_
    refine hs_bipush (v := (45 : Int32)) dX1_readOne_121 (by decide) ?_
    obtain ⟨r32, h32, h⟩ := hb_bind h
    obtain ⟨h32, nf32, hb32⟩ := hb_on_at h32
    refine hs_callVi (μ' := mX7_skip) (mc := 0) (ms := 0) (rc := 0) (rs := 0) (As := [.int (45 : Int32)]) (rest := [.int r30, .ref r29]) (ci := 7) dX1_readOne_123 lmX1_73 okX7_skip rfl (by decide) rfl (Nat.le_of_ble_eq_true rfl) rfl hb32 (c_X7_skip h32) ?_
    refine hs_if_eq (tgt := 133) dX1_readOne_126 (by decide) (fun hc33 => ?_) (fun hc33 => ?_)
    · rw [if_pos hc33] at h
      refine hs_aload_n dX1_readOne_133 0 rfl ?_
      obtain ⟨r34, h34, h⟩ := hb_bind h
      refine hs_getR dX1_readOne_134 lkX1_32 rfl h34 ?_
      refine hs_iconst (v := (2 : Int32)) dX1_readOne_137 (by decide) ?_
      obtain ⟨r35, h35, h⟩ := hb_bind h
      obtain ⟨h35, nf35, hb35⟩ := hb_on_at h35
      refine hs_callVi (μ' := mX7_number) (mc := 0) (ms := 0) (rc := 0) (rs := 0) (As := [.int (2 : Int32)]) (rest := [.int r30, .ref r29]) (ci := 7) dX1_readOne_138 lmX1_62 okX7_number rfl (by decide) rfl (Nat.le_of_ble_eq_true rfl) rfl hb35 (c_X7_number h35) ?_
      refine hs_sub (lv' := [(0, .ref x0)]) [0] rfl ?_
      exact c_X1_readOne_b141 h
    · rw [if_neg hc33] at h
      refine hs_iconst (v := (-1 : Int32)) dX1_readOne_129 (by decide) ?_
      refine hs_goto (tgt := 141) dX1_readOne_130 (by decide) ?_
      refine hs_sub (lv' := [(0, .ref x0)]) [0] rfl ?_
      exact c_X1_readOne_b141 h
  rw [if_neg hc25] at h
  refine hs_lkpD (tgt := 152) [(43 : Int32), (45 : Int32), (97 : Int32), (110 : Int32), (115 : Int32)] dX1_readOne_27 (by decide) (by simp only [List.mem_cons, List.not_mem_nil, or_false, forall_eq_or_imp, forall_eq]; exact ⟨hc9, hc11, hc13, hc19, hc25⟩) (by decide) (by decide) ?_
  refine hs_sub (lv' := [(0, .ref x0)]) [0] rfl ?_
  exact c_X1_readOne_b152 h
def mX1_read : hb_Y := (yX1_read, cX1_read, 1, none, [], false)
set_option maxHeartbeats 4000000 in
set_option maxRecDepth 20000 in
theorem c_X1_read_b12 {G : hb_G} {l : Launch} {z : Bool} : ∀ (n : Nat) (x0 : Nat) (σ : hb_M) (r : hb_M), f_X1_read_b12 n x0 σ = some r → hb_T G l z mX1_read 6 0 0 12 [(0, .ref x0)] [] σ (.inl none, r) := by
  intro n
  induction n with
  | zero =>
    intro x0 σ r h
    cases h
  | succ n ih =>
    intro x0 σ r h
    rw [f_X1_read_b12] at h
    refine hs_aload_n dX1_read_12 0 rfl ?_
    obtain ⟨r1, h1, h⟩ := hb_bind h
    refine hs_getI dX1_read_13 lkX1_41 rfl h1 ?_
    refine hs_bipush (v := (100 : Int32)) dX1_read_16 (by decide) ?_
    refine hs_icmp_ge (tgt := 58) dX1_read_18 (by decide) (fun hc2 => ?_) (fun hc2 => ?_)
    · rw [if_pos hc2] at h
      obtain rfl := Option.some.inj h
      exact hs_return dX1_read_58 rfl (fun _ => rfl)
    · rw [if_neg hc2] at h
      refine hs_aload_n dX1_read_21 0 rfl ?_
      obtain ⟨r3, h3, h⟩ := hb_bind h
      refine hs_getR dX1_read_22 lkX1_32 rfl h3 ?_
      obtain ⟨r4, h4, h⟩ := hb_bind h
      refine hs_getI dX1_read_25 lkX1_45 rfl h4 ?_
      refine hs_if_ne (tgt := 58) dX1_read_28 (by decide) (fun hc5 => ?_) (fun hc5 => ?_)
      · rw [if_neg hc5] at h
        obtain rfl := Option.some.inj h
        exact hs_return dX1_read_58 rfl (fun _ => rfl)
      · rw [if_pos hc5] at h
        refine hs_aload_n dX1_read_31 0 rfl ?_
        obtain ⟨r6, h6, h⟩ := hb_bind h
        refine hs_getR dX1_read_32 lkX1_32 rfl h6 ?_
        obtain ⟨r7, h7, h⟩ := hb_bind h
        obtain ⟨h7, nf7, hb7⟩ := hb_on_at h7
        refine hs_callVi (μ' := mX7_atEnd) (mc := 0) (ms := 0) (rc := 0) (rs := 0) (As := []) (rest := []) (ci := 7) dX1_read_35 lmX1_49 okX7_atEnd rfl (by decide) rfl (Nat.le_of_ble_eq_true rfl) rfl hb7 (c_X7_atEnd h7) ?_
        refine hs_if_ne (tgt := 58) dX1_read_38 (by decide) (fun hc8 => ?_) (fun hc8 => ?_)
        · rw [if_neg hc8] at h
          obtain rfl := Option.some.inj h
          exact hs_return dX1_read_58 rfl (fun _ => rfl)
        · rw [if_pos hc8] at h
          refine hs_aload_n dX1_read_41 0 rfl ?_
          obtain ⟨r9, h9, h⟩ := hb_bind h
          obtain ⟨h9, nf9, hb9⟩ := hb_on_at h9
          refine hs_callVv (μ' := mX1_readOne) (mc := 0) (ms := 0) (rc := 0) (rs := 0) (As := []) (rest := []) (ci := 1) dX1_read_42 lmX1_53 okX1_readOne rfl (by decide) rfl (Nat.le_of_ble_eq_true rfl) rfl hb9 (c_X1_readOne h9) ?_
          refine hs_aload_n dX1_read_45 0 rfl ?_
          refine hs_dup dX1_read_46 rfl ?_
          obtain ⟨r10, h10, h⟩ := hb_bind h
          refine hs_getI dX1_read_47 lkX1_41 rfl h10 ?_
          refine hs_iconst (v := (1 : Int32)) dX1_read_50 (by decide) ?_
          refine hs_iadd dX1_read_51 ?_
          obtain ⟨r11, h11, h⟩ := hb_bind h
          refine hs_putI dX1_read_52 lpX1_read_41 rfl h11 ?_
          refine hs_goto (tgt := 12) dX1_read_55 (by decide) ?_
          refine hs_sub (lv' := [(0, .ref x0)]) [0] rfl ?_
          exact ih _ _ _ h
set_option maxHeartbeats 4000000 in
set_option maxRecDepth 20000 in
theorem c_X1_read {G : hb_G} {l : Launch} {z : Bool} {x0 : Nat} {σ : hb_M} {r : hb_M} (h : f_X1_read x0 σ = some r) : hb_Call G l z 6 0 0 mX1_read [.ref x0] σ (.inl none, r) := by
  refine hb_met (by decide) (Nat.le_of_ble_eq_true rfl) ?_
  unfold f_X1_read at h
  refine hs_aload_n dX1_read_0 0 rfl ?_
  obtain ⟨r1, h1, h⟩ := hb_bind h
  refine hs_getR dX1_read_1 lkX1_32 rfl h1 ?_
  obtain ⟨r2, h2, h⟩ := hb_bind h
  obtain ⟨h2, nf2, hb2⟩ := hb_on_at h2
  refine hs_callVv (μ' := mX7_begin) (mc := 0) (ms := 0) (rc := 0) (rs := 0) (As := []) (rest := []) (ci := 7) dX1_read_4 lmX1_36 okX7_begin rfl (by decide) rfl (Nat.le_of_ble_eq_true rfl) rfl hb2 (c_X7_begin h2) ?_
  refine hs_aload_n dX1_read_7 0 rfl ?_
  refine hs_iconst (v := (0 : Int32)) dX1_read_8 (by decide) ?_
  obtain ⟨r3, h3, h⟩ := hb_bind h
  refine hs_putI dX1_read_9 lpX1_read_41 rfl h3 ?_
  refine hs_sub (lv' := [(0, .ref x0)]) [0] rfl ?_
  exact c_X1_read_b12 hb_FU _ _ _ h
def mX1_problemOfCommand : hb_Y := (yX1_problemOfCommand, cX1_problemOfCommand, 2, (some .int), [], false)
theorem okX1_problemOfCommand : hb_okV mX1_problemOfCommand 1 := ⟨⟨hb_w 9 (by decide +kernel) (by decide +kernel), hb_w 697 (by decide +kernel) (by decide +kernel), ⟨by decide +kernel, by decide +kernel, by decide +kernel⟩, by decide⟩, hb_w 696 (by decide +kernel) (by decide +kernel), hb_wp (q := (yX1_problemOfCommand, 8)) 20 (by decide +kernel) (by decide +kernel)⟩
set_option maxHeartbeats 4000000 in
set_option maxRecDepth 20000 in
theorem c_X1_problemOfCommand {G : hb_G} {l : Launch} {z : Bool} {x0 : Nat} {x1 : Int32} {σ : hb_M} {r : (Int32 × hb_M)} (h : f_X1_problemOfCommand x0 x1 σ = some r) : hb_Call G l z 5 0 0 mX1_problemOfCommand [.ref x0, .int x1] σ (.inl (some (.int r.1)), r.2) := by
  refine hb_met (by decide) (Nat.le_of_ble_eq_true rfl) ?_
  unfold f_X1_problemOfCommand at h
  refine hs_aload_n dX1_problemOfCommand_0 0 rfl ?_
  obtain ⟨r1, h1, h⟩ := hb_bind h
  refine hs_getR dX1_problemOfCommand_1 lkX1_9 rfl h1 ?_
  refine hs_iload_n dX1_problemOfCommand_4 1 rfl ?_
  obtain ⟨r2, h2, h⟩ := hb_bind h
  refine hs_iald dX1_problemOfCommand_5 h2 ?_
  by_cases hc3 : r2 = (43 : Int32)
  · rw [if_pos hc3] at h
    refine hs_lkpC (tgt := 126) (off := 120) (43 : Int32) dX1_problemOfCommand_6 (by decide) hc3 (by decide) (by decide) ?_
    refine hs_aload_n dX1_problemOfCommand_126 0 rfl ?_
    obtain ⟨r4, h4, h⟩ := hb_bind h
    refine hs_getR dX1_problemOfCommand_127 lkX1_24 rfl h4 ?_
    refine hs_aload_n dX1_problemOfCommand_130 0 rfl ?_
    obtain ⟨r5, h5, h⟩ := hb_bind h
    refine hs_getR dX1_problemOfCommand_131 lkX1_15 rfl h5 ?_
    refine hs_iload_n dX1_problemOfCommand_134 1 rfl ?_
    obtain ⟨r6, h6, h⟩ := hb_bind h
    refine hs_iald dX1_problemOfCommand_135 h6 ?_
    refine hs_aload_n dX1_problemOfCommand_136 0 rfl ?_
    obtain ⟨r7, h7, h⟩ := hb_bind h
    refine hs_getR dX1_problemOfCommand_137 lkX1_18 rfl h7 ?_
    refine hs_iload_n dX1_problemOfCommand_140 1 rfl ?_
    obtain ⟨r8, h8, h⟩ := hb_bind h
    refine hs_iald dX1_problemOfCommand_141 h8 ?_
    obtain ⟨r9, h9, h⟩ := hb_bind h
    obtain ⟨h9, nf9, hb9⟩ := hb_on_at h9
    refine hs_callVi (μ' := mX4_problemOfRoot) (mc := 0) (ms := 0) (rc := 0) (rs := 0) (As := [.int r6, .int r8]) (rest := []) (ci := 4) dX1_problemOfCommand_142 lmX1_100 okX4_problemOfRoot rfl (by decide) rfl (Nat.le_of_ble_eq_true rfl) rfl hb9 (c_X4_problemOfRoot h9) ?_
    obtain rfl := Option.some.inj h
    exact hs_ireturn dX1_problemOfCommand_145 rfl (by rfl) (fun _ => rfl)
  rw [if_neg hc3] at h
  by_cases hc10 : r2 = (45 : Int32)
  · rw [if_pos hc10] at h
    refine hs_lkpC (tgt := 146) (off := 140) (45 : Int32) dX1_problemOfCommand_6 (by decide) hc10 (by decide) (by decide) ?_
    refine hs_aload_n dX1_problemOfCommand_146 0 rfl ?_
    obtain ⟨r11, h11, h⟩ := hb_bind h
    refine hs_getR dX1_problemOfCommand_147 lkX1_24 rfl h11 ?_
    refine hs_aload_n dX1_problemOfCommand_150 0 rfl ?_
    obtain ⟨r12, h12, h⟩ := hb_bind h
    refine hs_getR dX1_problemOfCommand_151 lkX1_15 rfl h12 ?_
    refine hs_iload_n dX1_problemOfCommand_154 1 rfl ?_
    obtain ⟨r13, h13, h⟩ := hb_bind h
    refine hs_iald dX1_problemOfCommand_155 h13 ?_
    refine hs_aload_n dX1_problemOfCommand_156 0 rfl ?_
    obtain ⟨r14, h14, h⟩ := hb_bind h
    refine hs_getR dX1_problemOfCommand_157 lkX1_18 rfl h14 ?_
    refine hs_iload_n dX1_problemOfCommand_160 1 rfl ?_
    obtain ⟨r15, h15, h⟩ := hb_bind h
    refine hs_iald dX1_problemOfCommand_161 h15 ?_
    obtain ⟨r16, h16, h⟩ := hb_bind h
    obtain ⟨h16, nf16, hb16⟩ := hb_on_at h16
    refine hs_callVi (μ' := mX4_problemOfUnrooting) (mc := 0) (ms := 0) (rc := 0) (rs := 0) (As := [.int r13, .int r15]) (rest := []) (ci := 4) dX1_problemOfCommand_162 lmX1_104 okX4_problemOfUnrooting rfl (by decide) rfl (Nat.le_of_ble_eq_true rfl) rfl hb16 (c_X4_problemOfUnrooting h16) ?_
    obtain rfl := Option.some.inj h
    exact hs_ireturn dX1_problemOfCommand_165 rfl (by rfl) (fun _ => rfl)
  rw [if_neg hc10] at h
  by_cases hc17 : r2 = (97 : Int32)
  · rw [if_pos hc17] at h
    refine hs_lkpC (tgt := 78) (off := 72) (97 : Int32) dX1_problemOfCommand_6 (by decide) hc17 (by decide) (by decide) ?_
    refine hs_aload_n dX1_problemOfCommand_78 0 rfl ?_
    obtain ⟨r18, h18, h⟩ := hb_bind h
    refine hs_getR dX1_problemOfCommand_79 lkX1_24 rfl h18 ?_
    refine hs_aload_n dX1_problemOfCommand_82 0 rfl ?_
    obtain ⟨r19, h19, h⟩ := hb_bind h
    refine hs_getR dX1_problemOfCommand_83 lkX1_15 rfl h19 ?_
    refine hs_iload_n dX1_problemOfCommand_86 1 rfl ?_
    obtain ⟨r20, h20, h⟩ := hb_bind h
    refine hs_iald dX1_problemOfCommand_87 h20 ?_
    obtain ⟨r21, h21, h⟩ := hb_bind h
    obtain ⟨h21, nf21, hb21⟩ := hb_on_at h21
    refine hs_callVi (μ' := mX4_problemOfArray) (mc := 0) (ms := 0) (rc := 0) (rs := 0) (As := [.int r20]) (rest := []) (ci := 4) dX1_problemOfCommand_88 lmX1_89 okX4_problemOfArray rfl (by decide) rfl (Nat.le_of_ble_eq_true rfl) rfl hb21 (c_X4_problemOfArray h21) ?_
    obtain rfl := Option.some.inj h
    exact hs_ireturn dX1_problemOfCommand_91 rfl (by rfl) (fun _ => rfl)
  rw [if_neg hc17] at h
  by_cases hc22 : r2 = (110 : Int32)
  · rw [if_pos hc22] at h
    refine hs_lkpC (tgt := 64) (off := 58) (110 : Int32) dX1_problemOfCommand_6 (by decide) hc22 (by decide) (by decide) ?_
    refine hs_aload_n dX1_problemOfCommand_64 0 rfl ?_
    obtain ⟨r23, h23, h⟩ := hb_bind h
    refine hs_getR dX1_problemOfCommand_65 lkX1_24 rfl h23 ?_
    refine hs_aload_n dX1_problemOfCommand_68 0 rfl ?_
    obtain ⟨r24, h24, h⟩ := hb_bind h
    refine hs_getR dX1_problemOfCommand_69 lkX1_15 rfl h24 ?_
    refine hs_iload_n dX1_problemOfCommand_72 1 rfl ?_
    obtain ⟨r25, h25, h⟩ := hb_bind h
    refine hs_iald dX1_problemOfCommand_73 h25 ?_
    obtain ⟨r26, h26, h⟩ := hb_bind h
    obtain ⟨h26, nf26, hb26⟩ := hb_on_at h26
    refine hs_callVi (μ' := mX4_problemOfInstance) (mc := 0) (ms := 0) (rc := 0) (rs := 0) (As := [.int r25]) (rest := []) (ci := 4) dX1_problemOfCommand_74 lmX1_84 okX4_problemOfInstance rfl (by decide) rfl (Nat.le_of_ble_eq_true rfl) rfl hb26 (c_X4_problemOfInstance h26) ?_
    obtain rfl := Option.some.inj h
    exact hs_ireturn dX1_problemOfCommand_77 rfl (by rfl) (fun _ => rfl)
  rw [if_neg hc22] at h
  by_cases hc27 : r2 = (115 : Int32)
  · rw [if_pos hc27] at h
    refine hs_lkpC (tgt := 100) (off := 94) (115 : Int32) dX1_problemOfCommand_6 (by decide) hc27 (by decide) (by decide) ?_
    refine hs_aload_n dX1_problemOfCommand_100 0 rfl ?_
    obtain ⟨r28, h28, h⟩ := hb_bind h
    refine hs_getR dX1_problemOfCommand_101 lkX1_24 rfl h28 ?_
    refine hs_aload_n dX1_problemOfCommand_104 0 rfl ?_
    obtain ⟨r29, h29, h⟩ := hb_bind h
    refine hs_getR dX1_problemOfCommand_105 lkX1_15 rfl h29 ?_
    refine hs_iload_n dX1_problemOfCommand_108 1 rfl ?_
    obtain ⟨r30, h30, h⟩ := hb_bind h
    refine hs_iald dX1_problemOfCommand_109 h30 ?_
    refine hs_aload_n dX1_problemOfCommand_110 0 rfl ?_
    obtain ⟨r31, h31, h⟩ := hb_bind h
    refine hs_getR dX1_problemOfCommand_111 lkX1_18 rfl h31 ?_
    refine hs_iload_n dX1_problemOfCommand_114 1 rfl ?_
    obtain ⟨r32, h32, h⟩ := hb_bind h
    refine hs_iald dX1_problemOfCommand_115 h32 ?_
    refine hs_aload_n dX1_problemOfCommand_116 0 rfl ?_
    obtain ⟨r33, h33, h⟩ := hb_bind h
    refine hs_getR dX1_problemOfCommand_117 lkX1_21 rfl h33 ?_
    refine hs_iload_n dX1_problemOfCommand_120 1 rfl ?_
    obtain ⟨r34, h34, h⟩ := hb_bind h
    refine hs_iald dX1_problemOfCommand_121 h34 ?_
    obtain ⟨r35, h35, h⟩ := hb_bind h
    obtain ⟨h35, nf35, hb35⟩ := hb_on_at h35
    refine hs_callVi (μ' := mX4_problemOfTarget) (mc := 0) (ms := 0) (rc := 0) (rs := 0) (As := [.int r30, .int r32, .int r34]) (rest := []) (ci := 4) dX1_problemOfCommand_122 lmX1_96 okX4_problemOfTarget rfl (by decide) rfl (Nat.le_of_ble_eq_true rfl) rfl hb35 (c_X4_problemOfTarget h35) ?_
    obtain rfl := Option.some.inj h
    exact hs_ireturn dX1_problemOfCommand_125 rfl (by rfl) (fun _ => rfl)
  rw [if_neg hc27] at h
  by_cases hc36 : r2 = (119 : Int32)
  · rw [if_pos hc36] at h
    refine hs_lkpC (tgt := 92) (off := 86) (119 : Int32) dX1_problemOfCommand_6 (by decide) hc36 (by decide) (by decide) ?_
    refine hs_aload_n dX1_problemOfCommand_92 0 rfl ?_
    obtain ⟨r37, h37, h⟩ := hb_bind h
    refine hs_getR dX1_problemOfCommand_93 lkX1_24 rfl h37 ?_
    obtain ⟨r38, h38, h⟩ := hb_bind h
    obtain ⟨h38, nf38, hb38⟩ := hb_on_at h38
    refine hs_callVi (μ' := mX4_problemOfHolder) (mc := 0) (ms := 0) (rc := 0) (rs := 0) (As := []) (rest := []) (ci := 4) dX1_problemOfCommand_96 lmX1_92 okX4_problemOfHolder rfl (by decide) rfl (Nat.le_of_ble_eq_true rfl) rfl hb38 (c_X4_problemOfHolder h38) ?_
    obtain rfl := Option.some.inj h
    exact hs_ireturn dX1_problemOfCommand_99 rfl (by rfl) (fun _ => rfl)
  rw [if_neg hc36] at h
  refine hs_lkpD (tgt := 166) [(43 : Int32), (45 : Int32), (97 : Int32), (110 : Int32), (115 : Int32), (119 : Int32)] dX1_problemOfCommand_6 (by decide) (by simp only [List.mem_cons, List.not_mem_nil, or_false, forall_eq_or_imp, forall_eq]; exact ⟨hc3, hc10, hc17, hc22, hc27, hc36⟩) (by decide) (by decide) ?_
  refine hs_iconst (v := (0 : Int32)) dX1_problemOfCommand_166 (by decide) ?_
  obtain rfl := Option.some.inj h
  exact hs_ireturn dX1_problemOfCommand_167 rfl (by rfl) (fun _ => rfl)
def mX1_runOne : hb_Y := (yX1_runOne, cX1_runOne, 4, none, [], false)
theorem okX1_runOne : hb_okV mX1_runOne 1 := ⟨⟨hb_w 9 (by decide +kernel) (by decide +kernel), hb_w 736 (by decide +kernel) (by decide +kernel), ⟨by decide +kernel, by decide +kernel, by decide +kernel⟩, by decide⟩, hb_w 735 (by decide +kernel) (by decide +kernel), hb_wp (q := (yX1_runOne, 8)) 21 (by decide +kernel) (by decide +kernel)⟩
set_option maxHeartbeats 4000000 in
set_option maxRecDepth 20000 in
theorem c_X1_runOne {G : hb_G} {l : Launch} {z : Bool} {x0 : Nat} {x1 : Int32} {σ : hb_M} {r : hb_M} (h : f_X1_runOne x0 x1 σ = some r) : hb_Call G l z 5 0 0 mX1_runOne [.ref x0, .int x1] σ (.inl none, r) := by
  refine hb_met (by decide) (Nat.le_of_ble_eq_true rfl) ?_
  unfold f_X1_runOne at h
  refine hs_aload_n dX1_runOne_0 0 rfl ?_
  obtain ⟨r1, h1, h⟩ := hb_bind h
  refine hs_getR dX1_runOne_1 lkX1_15 rfl h1 ?_
  refine hs_iload_n dX1_runOne_4 1 rfl ?_
  obtain ⟨r2, h2, h⟩ := hb_bind h
  refine hs_iald dX1_runOne_5 h2 ?_
  refine hs_istore_n (lv' := [(2, .int r2), (0, .ref x0), (1, .int x1)]) dX1_runOne_6 (by decide) rfl ?_
  refine hs_aload_n dX1_runOne_7 1 rfl ?_
  obtain ⟨r3, h3, h⟩ := hb_bind h
  refine hs_getR dX1_runOne_8 lkX1_18 rfl h3 ?_
  refine hs_iload_n dX1_runOne_11 2 rfl ?_
  obtain ⟨r4, h4, h⟩ := hb_bind h
  refine hs_iald dX1_runOne_12 h4 ?_
  refine hs_istore_n (lv' := [(3, .int r4), (2, .int r2), (0, .ref x0), (1, .int x1)]) dX1_runOne_13 (by decide) rfl ?_
  refine hs_aload_n dX1_runOne_14 2 rfl ?_
  obtain ⟨r5, h5, h⟩ := hb_bind h
  refine hs_getR dX1_runOne_15 lkX1_9 rfl h5 ?_
  refine hs_iload_n dX1_runOne_18 3 rfl ?_
  obtain ⟨r6, h6, h⟩ := hb_bind h
  refine hs_iald dX1_runOne_19 h6 ?_
  by_cases hc7 : r6 = (43 : Int32)
  · rw [if_pos hc7] at h
    refine hs_lkpC (tgt := 134) (off := 114) (43 : Int32) dX1_runOne_20 (by decide) hc7 (by decide) (by decide) ?_
    refine hs_aload_n dX1_runOne_134 2 rfl ?_
    obtain ⟨r8, h8, h⟩ := hb_bind h
    refine hs_getR dX1_runOne_135 lkX1_24 rfl h8 ?_
    refine hs_iload_n dX1_runOne_138 1 rfl ?_
    refine hs_aload_n dX1_runOne_139 2 rfl ?_
    obtain ⟨r9, h9, h⟩ := hb_bind h
    refine hs_getR dX1_runOne_140 lkX1_24 rfl h9 ?_
    obtain ⟨r10, h10, h⟩ := hb_bind h
    refine hs_getR dX1_runOne_143 lkX1_119 rfl h10 ?_
    refine hs_iload_n dX1_runOne_146 1 rfl ?_
    obtain ⟨r11, h11, h⟩ := hb_bind h
    refine hs_iald dX1_runOne_147 h11 ?_
    refine hs_iconst (v := (1 : Int32)) dX1_runOne_148 (by decide) ?_
    refine hs_iload_n dX1_runOne_149 0 rfl ?_
    refine hs_ishl dX1_runOne_150 ?_
    refine hs_ior dX1_runOne_151 ?_
    obtain ⟨r12, h12, h⟩ := hb_bind h
    obtain ⟨h12, nf12, hb12⟩ := hb_on_at h12
    refine hs_callVi (μ' := mX4_putRoots) (mc := 0) (ms := 0) (rc := 0) (rs := 0) (As := [.int r2, .int (r11 ||| ((1 : Int32) <<< (r4 &&& 31)))]) (rest := []) (ci := 4) dX1_runOne_152 lmX1_122 okX4_putRoots rfl (by decide) rfl (Nat.le_of_ble_eq_true rfl) rfl hb12 (c_X4_putRoots h12) ?_
    refine hs_pop dX1_runOne_155 rfl ?_
    refine hs_goto (tgt := 194) dX1_runOne_156 (by decide) ?_
    obtain rfl := Option.some.inj h
    exact hs_return dX1_runOne_194 rfl (fun _ => rfl)
  rw [if_neg hc7] at h
  by_cases hc13 : r6 = (45 : Int32)
  · rw [if_pos hc13] at h
    refine hs_lkpC (tgt := 159) (off := 139) (45 : Int32) dX1_runOne_20 (by decide) hc13 (by decide) (by decide) ?_
    refine hs_aload_n dX1_runOne_159 2 rfl ?_
    obtain ⟨r14, h14, h⟩ := hb_bind h
    refine hs_getR dX1_runOne_160 lkX1_24 rfl h14 ?_
    refine hs_iload_n dX1_runOne_163 1 rfl ?_
    refine hs_aload_n dX1_runOne_164 2 rfl ?_
    obtain ⟨r15, h15, h⟩ := hb_bind h
    refine hs_getR dX1_runOne_165 lkX1_24 rfl h15 ?_
    obtain ⟨r16, h16, h⟩ := hb_bind h
    refine hs_getR dX1_runOne_168 lkX1_119 rfl h16 ?_
    refine hs_iload_n dX1_runOne_171 1 rfl ?_
    obtain ⟨r17, h17, h⟩ := hb_bind h
    refine hs_iald dX1_runOne_172 h17 ?_
    refine hs_iconst (v := (1 : Int32)) dX1_runOne_173 (by decide) ?_
    refine hs_iload_n dX1_runOne_174 0 rfl ?_
    refine hs_ishl dX1_runOne_175 ?_
    refine hs_iconst (v := (-1 : Int32)) dX1_runOne_176 (by decide) ?_
    refine hs_ixor dX1_runOne_177 ?_
    refine hs_iand dX1_runOne_178 ?_
    obtain ⟨r18, h18, h⟩ := hb_bind h
    obtain ⟨h18, nf18, hb18⟩ := hb_on_at h18
    refine hs_callVi (μ' := mX4_putRoots) (mc := 0) (ms := 0) (rc := 0) (rs := 0) (As := [.int r2, .int (r17 &&& (((1 : Int32) <<< (r4 &&& 31)) ^^^ (-1 : Int32)))]) (rest := []) (ci := 4) dX1_runOne_179 lmX1_122 okX4_putRoots rfl (by decide) rfl (Nat.le_of_ble_eq_true rfl) rfl hb18 (c_X4_putRoots h18) ?_
    refine hs_pop dX1_runOne_182 rfl ?_
    refine hs_goto (tgt := 194) dX1_runOne_183 (by decide) ?_
    obtain rfl := Option.some.inj h
    exact hs_return dX1_runOne_194 rfl (fun _ => rfl)
  rw [if_neg hc13] at h
  by_cases hc19 : r6 = (97 : Int32)
  · rw [if_pos hc19] at h
    refine hs_lkpC (tgt := 92) (off := 72) (97 : Int32) dX1_runOne_20 (by decide) hc19 (by decide) (by decide) ?_
    refine hs_aload_n dX1_runOne_92 2 rfl ?_
    obtain ⟨r20, h20, h⟩ := hb_bind h
    refine hs_getR dX1_runOne_93 lkX1_24 rfl h20 ?_
    refine hs_iload_n dX1_runOne_96 1 rfl ?_
    obtain ⟨r21, h21, h⟩ := hb_bind h
    obtain ⟨h21, nf21, hb21⟩ := hb_on_at h21
    refine hs_callVi (μ' := mX4_addArray) (mc := 0) (ms := 0) (rc := 0) (rs := 0) (As := [.int r2]) (rest := []) (ci := 4) dX1_runOne_97 lmX1_110 okX4_addArray rfl (by decide) rfl (Nat.le_of_ble_eq_true rfl) rfl hb21 (c_X4_addArray h21) ?_
    refine hs_pop dX1_runOne_100 rfl ?_
    refine hs_goto (tgt := 194) dX1_runOne_101 (by decide) ?_
    obtain rfl := Option.some.inj h
    exact hs_return dX1_runOne_194 rfl (fun _ => rfl)
  rw [if_neg hc19] at h
  by_cases hc22 : r6 = (110 : Int32)
  · rw [if_pos hc22] at h
    refine hs_lkpC (tgt := 80) (off := 60) (110 : Int32) dX1_runOne_20 (by decide) hc22 (by decide) (by decide) ?_
    refine hs_aload_n dX1_runOne_80 2 rfl ?_
    obtain ⟨r23, h23, h⟩ := hb_bind h
    refine hs_getR dX1_runOne_81 lkX1_24 rfl h23 ?_
    refine hs_iload_n dX1_runOne_84 1 rfl ?_
    obtain ⟨r24, h24, h⟩ := hb_bind h
    obtain ⟨h24, nf24, hb24⟩ := hb_on_at h24
    refine hs_callVi (μ' := mX4_addInstance) (mc := 0) (ms := 0) (rc := 0) (rs := 0) (As := [.int r2]) (rest := []) (ci := 4) dX1_runOne_85 lmX1_107 okX4_addInstance rfl (by decide) rfl (Nat.le_of_ble_eq_true rfl) rfl hb24 (c_X4_addInstance h24) ?_
    refine hs_pop dX1_runOne_88 rfl ?_
    refine hs_goto (tgt := 194) dX1_runOne_89 (by decide) ?_
    obtain rfl := Option.some.inj h
    exact hs_return dX1_runOne_194 rfl (fun _ => rfl)
  rw [if_neg hc22] at h
  by_cases hc25 : r6 = (115 : Int32)
  · rw [if_pos hc25] at h
    refine hs_lkpC (tgt := 115) (off := 95) (115 : Int32) dX1_runOne_20 (by decide) hc25 (by decide) (by decide) ?_
    refine hs_aload_n dX1_runOne_115 2 rfl ?_
    obtain ⟨r26, h26, h⟩ := hb_bind h
    refine hs_getR dX1_runOne_116 lkX1_24 rfl h26 ?_
    refine hs_iload_n dX1_runOne_119 1 rfl ?_
    refine hs_iload_n dX1_runOne_120 0 rfl ?_
    refine hs_aload_n dX1_runOne_121 2 rfl ?_
    obtain ⟨r27, h27, h⟩ := hb_bind h
    refine hs_getR dX1_runOne_122 lkX1_21 rfl h27 ?_
    refine hs_iload_n dX1_runOne_125 3 rfl ?_
    obtain ⟨r28, h28, h⟩ := hb_bind h
    refine hs_iald dX1_runOne_126 h28 ?_
    obtain ⟨r29, h29, h⟩ := hb_bind h
    obtain ⟨h29, nf29, hb29⟩ := hb_on_at h29
    refine hs_callVi (μ' := mX4_putTarget) (mc := 0) (ms := 0) (rc := 0) (rs := 0) (As := [.int r2, .int r4, .int r28]) (rest := []) (ci := 4) dX1_runOne_127 lmX1_116 okX4_putTarget rfl (by decide) rfl (Nat.le_of_ble_eq_true rfl) rfl hb29 (c_X4_putTarget h29) ?_
    refine hs_pop dX1_runOne_130 rfl ?_
    refine hs_goto (tgt := 194) dX1_runOne_131 (by decide) ?_
    obtain rfl := Option.some.inj h
    exact hs_return dX1_runOne_194 rfl (fun _ => rfl)
  rw [if_neg hc25] at h
  by_cases hc30 : r6 = (119 : Int32)
  · rw [if_pos hc30] at h
    refine hs_lkpC (tgt := 104) (off := 84) (119 : Int32) dX1_runOne_20 (by decide) hc30 (by decide) (by decide) ?_
    refine hs_aload_n dX1_runOne_104 2 rfl ?_
    obtain ⟨r31, h31, h⟩ := hb_bind h
    refine hs_getR dX1_runOne_105 lkX1_24 rfl h31 ?_
    obtain ⟨r32, h32, h⟩ := hb_bind h
    obtain ⟨h32, nf32, hb32⟩ := hb_on_at h32
    refine hs_callVi (μ' := mX4_addHolder) (mc := 0) (ms := 0) (rc := 0) (rs := 0) (As := []) (rest := []) (ci := 4) dX1_runOne_108 lmX1_113 okX4_addHolder rfl (by decide) rfl (Nat.le_of_ble_eq_true rfl) rfl hb32 (c_X4_addHolder h32) ?_
    refine hs_pop dX1_runOne_111 rfl ?_
    refine hs_goto (tgt := 194) dX1_runOne_112 (by decide) ?_
    obtain rfl := Option.some.inj h
    exact hs_return dX1_runOne_194 rfl (fun _ => rfl)
  rw [if_neg hc30] at h
  refine hs_lkpD (tgt := 186) [(43 : Int32), (45 : Int32), (97 : Int32), (110 : Int32), (115 : Int32), (119 : Int32)] dX1_runOne_20 (by decide) (by simp only [List.mem_cons, List.not_mem_nil, or_false, forall_eq_or_imp, forall_eq]; exact ⟨hc7, hc13, hc19, hc22, hc25, hc30⟩) (by decide) (by decide) ?_
  refine hs_aload_n dX1_runOne_186 2 rfl ?_
  obtain ⟨r33, h33, h⟩ := hb_bind h
  refine hs_getR dX1_runOne_187 lkX1_28 rfl h33 ?_
  obtain ⟨r34, h34, h⟩ := hb_bind h
  obtain ⟨h34, nf34, hb34⟩ := hb_on_at h34
  refine hs_callVi (μ' := mX0_removeGarbage) (mc := 0) (ms := 0) (rc := 0) (rs := 0) (As := []) (rest := []) (ci := 0) dX1_runOne_190 lmX1_125 okX0_removeGarbage rfl (by decide) rfl (Nat.le_of_ble_eq_true rfl) rfl hb34 (c_X0_removeGarbage h34) ?_
  refine hs_pop dX1_runOne_193 rfl ?_
  obtain rfl := Option.some.inj h
  exact hs_return dX1_runOne_194 rfl (fun _ => rfl)
def mX1_run : hb_Y := (yX1_run, cX1_run, 2, (some .int), [], false)
set_option maxHeartbeats 4000000 in
set_option maxRecDepth 20000 in
theorem c_X1_run_b2 {G : hb_G} {l : Launch} {z : Bool} : ∀ (n : Nat) (x0 : Nat) (x1 : Int32) (σ : hb_M) (r : (Int32 × hb_M)), f_X1_run_b2 n x0 x1 σ = some r → hb_T G l z mX1_run 6 0 0 2 [(0, .ref x0), (1, .int x1)] [] σ (.inl (some (.int r.1)), r.2) := by
  intro n
  induction n with
  | zero =>
    intro x0 x1 σ r h
    cases h
  | succ n ih =>
    intro x0 x1 σ r h
    rw [f_X1_run_b2] at h
    refine hs_iload_n dX1_run_2 1 rfl ?_
    refine hs_aload_n dX1_run_3 0 rfl ?_
    obtain ⟨r1, h1, h⟩ := hb_bind h
    refine hs_getI dX1_run_4 lkX1_41 rfl h1 ?_
    refine hs_icmp_ge (tgt := 37) dX1_run_7 (by decide) (fun hc2 => ?_) (fun hc2 => ?_)
    · rw [if_pos hc2] at h
      refine hs_iconst (v := (-1 : Int32)) dX1_run_37 (by decide) ?_
      obtain rfl := Option.some.inj h
      exact hs_ireturn dX1_run_38 rfl (by rfl) (fun _ => rfl)
    · rw [if_neg hc2] at h
      refine hs_iload_n dX1_run_10 1 rfl ?_
      refine hs_bipush (v := (100 : Int32)) dX1_run_11 (by decide) ?_
      refine hs_icmp_ge (tgt := 37) dX1_run_13 (by decide) (fun hc3 => ?_) (fun hc3 => ?_)
      · rw [if_pos hc3] at h
        refine hs_iconst (v := (-1 : Int32)) dX1_run_37 (by decide) ?_
        obtain rfl := Option.some.inj h
        exact hs_ireturn dX1_run_38 rfl (by rfl) (fun _ => rfl)
      · rw [if_neg hc3] at h
        refine hs_aload_n dX1_run_16 0 rfl ?_
        refine hs_iload_n dX1_run_17 1 rfl ?_
        obtain ⟨r4, h4, h⟩ := hb_bind h
        obtain ⟨h4, nf4, hb4⟩ := hb_on_at h4
        refine hs_callVi (μ' := mX1_problemOfCommand) (mc := 0) (ms := 0) (rc := 0) (rs := 0) (As := [.int x1]) (rest := []) (ci := 1) dX1_run_18 lmX1_77 okX1_problemOfCommand rfl (by decide) rfl (Nat.le_of_ble_eq_true rfl) rfl hb4 (c_X1_problemOfCommand h4) ?_
        refine hs_if_eq (tgt := 26) dX1_run_21 (by decide) (fun hc5 => ?_) (fun hc5 => ?_)
        · rw [if_pos hc5] at h
          refine hs_aload_n dX1_run_26 0 rfl ?_
          refine hs_iload_n dX1_run_27 1 rfl ?_
          obtain ⟨r6, h6, h⟩ := hb_bind h
          obtain ⟨h6, nf6, hb6⟩ := hb_on_at h6
          refine hs_callVv (μ' := mX1_runOne) (mc := 0) (ms := 0) (rc := 0) (rs := 0) (As := [.int x1]) (rest := []) (ci := 1) dX1_run_28 lmX1_80 okX1_runOne rfl (by decide) rfl (Nat.le_of_ble_eq_true rfl) rfl hb6 (c_X1_runOne h6) ?_
          refine hs_iinc2 (k := (1 : Int32)) (lv' := [(1, .int (x1 + (1 : Int32))), (0, .ref x0)]) dX1_run_31 (by decide) 1 rfl (by decide) rfl ?_
          refine hs_goto (tgt := 2) dX1_run_34 (by decide) ?_
          refine hs_sub (lv' := [(0, .ref x0), (1, .int (x1 + (1 : Int32)))]) [1, 0] rfl ?_
          exact ih _ _ _ _ h
        · rw [if_neg hc5] at h
          refine hs_iload_n dX1_run_24 1 rfl ?_
          obtain rfl := Option.some.inj h
          exact hs_ireturn dX1_run_25 rfl (by rfl) (fun _ => rfl)
set_option maxHeartbeats 4000000 in
set_option maxRecDepth 20000 in
theorem c_X1_run {G : hb_G} {l : Launch} {z : Bool} {x0 : Nat} {σ : hb_M} {r : (Int32 × hb_M)} (h : f_X1_run x0 σ = some r) : hb_Call G l z 6 0 0 mX1_run [.ref x0] σ (.inl (some (.int r.1)), r.2) := by
  refine hb_met (by decide) (Nat.le_of_ble_eq_true rfl) ?_
  unfold f_X1_run at h
  refine hs_iconst (v := (0 : Int32)) dX1_run_0 (by decide) ?_
  refine hs_istore_n (lv' := [(1, .int (0 : Int32)), (0, .ref x0)]) dX1_run_1 (by decide) rfl ?_
  refine hs_sub (lv' := [(0, .ref x0), (1, .int (0 : Int32))]) [1, 0] rfl ?_
  exact c_X1_run_b2 hb_FU _ _ _ _ h
def mX3_init : hb_Y := (yX3_init, cX3_init, 4, none, [], false)
set_option maxHeartbeats 4000000 in
set_option maxRecDepth 20000 in
theorem c_X3_init {G : hb_G} {l : Launch} {z : Bool} {x0 : Nat} {x1 : Nat} {x2 : Nat} {x3 : Nat} {σ : hb_M} {r : hb_M} (h : f_X3_init x0 x1 x2 x3 σ = some r) : hb_Call G l z 0 0 0 mX3_init [.ref x0, .ref x1, .ref x2, .ref x3] σ (.inl none, r) := by
  refine hb_met (by decide) (Nat.le_of_ble_eq_true rfl) ?_
  unfold f_X3_init at h
  refine hs_aload_n dX3_init_0 0 rfl ?_
  refine hs_objInit dX3_init_1 wd_230 hb_oi1 hb_oi2 (Nat.le_of_ble_eq_true rfl) ?_
  refine hs_aload_n dX3_init_4 0 rfl ?_
  refine hs_aload_n dX3_init_5 1 rfl ?_
  obtain ⟨r1, h1, h⟩ := hb_bind h
  refine hs_putR dX3_init_6 lpX3_init_9 rfl h1 ?_
  refine hs_aload_n dX3_init_9 0 rfl ?_
  refine hs_aload_n dX3_init_10 2 rfl ?_
  obtain ⟨r2, h2, h⟩ := hb_bind h
  refine hs_putR dX3_init_11 lpX3_init_15 rfl h2 ?_
  refine hs_aload_n dX3_init_14 0 rfl ?_
  refine hs_aload_n dX3_init_15 3 rfl ?_
  obtain ⟨r3, h3, h⟩ := hb_bind h
  refine hs_putR dX3_init_16 lpX3_init_19 rfl h3 ?_
  obtain rfl := Option.some.inj h
  exact hs_return dX3_init_19 rfl (fun _ => rfl)
def mX3_negated : hb_Y := (yX3_negated, cX3_negated, 3, (some .boolean), [], false)
theorem okX3_negated : hb_okV mX3_negated 0 := ⟨⟨hb_w 8 (by decide +kernel) (by decide +kernel), hb_w 493 (by decide +kernel) (by decide +kernel), ⟨by decide +kernel, by decide +kernel, by decide +kernel⟩, by decide⟩, hb_w 492 (by decide +kernel) (by decide +kernel), hb_wp (q := (yX3_negated, 3)) 13 (by decide +kernel) (by decide +kernel)⟩
set_option maxHeartbeats 4000000 in
set_option maxRecDepth 20000 in
theorem c_X3_negated_b31 {G : hb_G} {l : Launch} {z : Bool}  (k4 : Nat → Int32 → Int32 → hb_M → Option (Int32 × hb_M)) (hk4 : ∀ (x0 : Nat) (x1 : Int32) (x2 : Int32) (σ : hb_M) (r : (Int32 × hb_M)), k4 x0 x1 x2 σ = some r → hb_T G l z mX3_negated 2 0 0 4 [(0, .ref x0), (1, .int x1), (2, .int x2)] [] σ (.inl (some (.int r.1)), r.2))  {x0 : Nat} {x2 : Int32} {s0 : Int32} {σ : hb_M} {r : (Int32 × hb_M)} (h : f_X3_negated_b31 k4 x0 x2 s0 σ = some r) : hb_T G l z mX3_negated 2 0 0 31 [(0, .ref x0), (2, .int x2)] [.int s0] σ (.inl (some (.int r.1)), r.2) := by
  unfold f_X3_negated_b31 at h
  refine hs_istore_n (lv' := [(1, .int s0), (0, .ref x0), (2, .int x2)]) dX3_negated_31 (by decide) rfl ?_
  refine hs_iinc2 (k := (1 : Int32)) (lv' := [(2, .int (x2 + (1 : Int32))), (1, .int s0), (0, .ref x0)]) dX3_negated_32 (by decide) 2 rfl (by decide) rfl ?_
  refine hs_goto (tgt := 4) dX3_negated_35 (by decide) ?_
  refine hs_sub (lv' := [(0, .ref x0), (1, .int s0), (2, .int (x2 + (1 : Int32)))]) [2, 1, 0] rfl ?_
  exact hk4 _ _ _ _ _ h
set_option maxHeartbeats 4000000 in
set_option maxRecDepth 20000 in
theorem c_X3_negated_b4 {G : hb_G} {l : Launch} {z : Bool} : ∀ (n : Nat) (x0 : Nat) (x1 : Int32) (x2 : Int32) (σ : hb_M) (r : (Int32 × hb_M)), f_X3_negated_b4 n x0 x1 x2 σ = some r → hb_T G l z mX3_negated 2 0 0 4 [(0, .ref x0), (1, .int x1), (2, .int x2)] [] σ (.inl (some (.int r.1)), r.2) := by
  intro n
  induction n with
  | zero =>
    intro x0 x1 x2 σ r h
    cases h
  | succ n ih =>
    intro x0 x1 x2 σ r h
    rw [f_X3_negated_b4] at h
    refine hs_iload_n dX3_negated_4 2 rfl ?_
    refine hs_bipush (v := (100 : Int32)) dX3_negated_5 (by decide) ?_
    refine hs_icmp_ge (tgt := 38) dX3_negated_7 (by decide) (fun hc1 => ?_) (fun hc1 => ?_)
    · rw [if_pos hc1] at h
      refine hs_iload_n dX3_negated_38 1 rfl ?_
      obtain ⟨rfl, hn⟩ := hb_zr_at h
      exact hs_ireturn dX3_negated_39 rfl hn (fun _ => rfl)
    · rw [if_neg hc1] at h
      refine hs_aload_n dX3_negated_10 0 rfl ?_
      obtain ⟨r2, h2, h⟩ := hb_bind h
      refine hs_getR dX3_negated_11 lkX3_19 rfl h2 ?_
      refine hs_bipush (v := (33 : Int32)) dX3_negated_14 (by decide) ?_
      obtain ⟨r3, h3, h⟩ := hb_bind h
      obtain ⟨h3, nf3, hb3⟩ := hb_on_at h3
      refine hs_callVi (μ' := mX7_skip) (mc := 0) (ms := 0) (rc := 0) (rs := 0) (As := [.int (33 : Int32)]) (rest := []) (ci := 7) dX3_negated_16 lmX3_47 okX7_skip rfl (by decide) rfl (Nat.le_of_ble_eq_true rfl) rfl hb3 (c_X7_skip h3) ?_
      refine hs_if_eq (tgt := 38) dX3_negated_19 (by decide) (fun hc4 => ?_) (fun hc4 => ?_)
      · rw [if_pos hc4] at h
        refine hs_iload_n dX3_negated_38 1 rfl ?_
        obtain ⟨rfl, hn⟩ := hb_zr_at h
        exact hs_ireturn dX3_negated_39 rfl hn (fun _ => rfl)
      · rw [if_neg hc4] at h
        refine hs_iload_n dX3_negated_22 1 rfl ?_
        refine hs_if_ne (tgt := 30) dX3_negated_23 (by decide) (fun hc5 => ?_) (fun hc5 => ?_)
        · rw [if_neg hc5] at h
          refine hs_iconst (v := (0 : Int32)) dX3_negated_30 (by decide) ?_
          refine hs_sub (lv' := [(0, .ref x0), (2, .int x2)]) [0, 2] rfl ?_
          exact c_X3_negated_b31 (f_X3_negated_b4 n) ih h
        · rw [if_pos hc5] at h
          refine hs_iconst (v := (1 : Int32)) dX3_negated_26 (by decide) ?_
          refine hs_goto (tgt := 31) dX3_negated_27 (by decide) ?_
          refine hs_sub (lv' := [(0, .ref x0), (2, .int x2)]) [0, 2] rfl ?_
          exact c_X3_negated_b31 (f_X3_negated_b4 n) ih h
set_option maxHeartbeats 4000000 in
set_option maxRecDepth 20000 in
theorem c_X3_negated {G : hb_G} {l : Launch} {z : Bool} {x0 : Nat} {σ : hb_M} {r : (Int32 × hb_M)} (h : f_X3_negated x0 σ = some r) : hb_Call G l z 2 0 0 mX3_negated [.ref x0] σ (.inl (some (.int r.1)), r.2) := by
  refine hb_met (by decide) (Nat.le_of_ble_eq_true rfl) ?_
  unfold f_X3_negated at h
  refine hs_iconst (v := (0 : Int32)) dX3_negated_0 (by decide) ?_
  refine hs_istore_n (lv' := [(1, .int (0 : Int32)), (0, .ref x0)]) dX3_negated_1 (by decide) rfl ?_
  refine hs_iconst (v := (0 : Int32)) dX3_negated_2 (by decide) ?_
  refine hs_istore_n (lv' := [(2, .int (0 : Int32)), (1, .int (0 : Int32)), (0, .ref x0)]) dX3_negated_3 (by decide) rfl ?_
  refine hs_sub (lv' := [(0, .ref x0), (1, .int (0 : Int32)), (2, .int (0 : Int32))]) [2, 1, 0] rfl ?_
  exact c_X3_negated_b4 hb_FU _ _ _ _ _ h
def mX3_instancesOf : hb_Y := (yX3_instancesOf, cX3_instancesOf, 2, (some .long), [], false)
theorem okX3_instancesOf : hb_okV mX3_instancesOf 1 := ⟨⟨hb_w 8 (by decide +kernel) (by decide +kernel), hb_w 519 (by decide +kernel) (by decide +kernel), ⟨by decide +kernel, by decide +kernel, by decide +kernel⟩, by decide⟩, hb_w 518 (by decide +kernel) (by decide +kernel), hb_wp (q := (yX3_instancesOf, 3)) 14 (by decide +kernel) (by decide +kernel)⟩
set_option maxHeartbeats 4000000 in
set_option maxRecDepth 20000 in
theorem c_X3_instancesOf {G : hb_G} {l : Launch} {z : Bool} {x0 : Nat} {x1 : Int32} {σ : hb_M} {r : (Int64 × hb_M)} (h : f_X3_instancesOf x0 x1 σ = some r) : hb_Call G l z 2 0 0 mX3_instancesOf [.ref x0, .int x1] σ (.inl (some (.long r.1)), r.2) := by
  refine hb_met (by decide) (Nat.le_of_ble_eq_true rfl) ?_
  unfold f_X3_instancesOf at h
  refine hs_aload_n dX3_instancesOf_0 0 rfl ?_
  obtain ⟨r1, h1, h⟩ := hb_bind h
  refine hs_getR dX3_instancesOf_1 lkX3_9 rfl h1 ?_
  refine hs_iload_n dX3_instancesOf_4 1 rfl ?_
  obtain ⟨r2, h2, h⟩ := hb_bind h
  obtain ⟨h2, nf2, hb2⟩ := hb_on_at h2
  refine hs_callVi (μ' := mX4_hasClass) (mc := 0) (ms := 0) (rc := 0) (rs := 0) (As := [.int x1]) (rest := []) (ci := 4) dX3_instancesOf_5 lmX3_82 okX4_hasClass rfl (by decide) rfl (Nat.le_of_ble_eq_true rfl) rfl hb2 (c_X4_hasClass h2) ?_
  refine hs_if_eq (tgt := 23) dX3_instancesOf_8 (by decide) (fun hc3 => ?_) (fun hc3 => ?_)
  · rw [if_pos hc3] at h
    refine hs_lconst (v := (0 : Int64)) dX3_instancesOf_23 (by decide) ?_
    obtain rfl := Option.some.inj h
    exact hs_lreturn dX3_instancesOf_24 rfl (fun _ => rfl)
  · rw [if_neg hc3] at h
    refine hs_aload_n dX3_instancesOf_11 0 rfl ?_
    obtain ⟨r4, h4, h⟩ := hb_bind h
    refine hs_getR dX3_instancesOf_12 lkX3_9 rfl h4 ?_
    refine hs_iload_n dX3_instancesOf_15 1 rfl ?_
    refine hs_iconst (v := (1 : Int32)) dX3_instancesOf_16 (by decide) ?_
    obtain ⟨r5, h5, h⟩ := hb_bind h
    obtain ⟨h5, nf5, hb5⟩ := hb_on_at h5
    refine hs_callVl (μ' := mX4_membersOf) (mc := 0) (ms := 0) (rc := 0) (rs := 0) (As := [.int x1, .int (1 : Int32)]) (rest := []) (ci := 4) dX3_instancesOf_17 lmX3_86 okX4_membersOf rfl (by decide) rfl (Nat.le_of_ble_eq_true rfl) rfl hb5 (c_X4_membersOf h5) ?_
    refine hs_goto (tgt := 24) dX3_instancesOf_20 (by decide) ?_
    obtain rfl := Option.some.inj h
    exact hs_lreturn dX3_instancesOf_24 rfl (fun _ => rfl)
def mX3_valueOf : hb_Y := (yX3_valueOf, cX3_valueOf, 3, (some .int), [], false)
theorem okX3_valueOf : hb_okV mX3_valueOf 2 := ⟨⟨hb_w 8 (by decide +kernel) (by decide +kernel), hb_w 630 (by decide +kernel) (by decide +kernel), ⟨by decide +kernel, by decide +kernel, by decide +kernel⟩, by decide⟩, hb_w 629 (by decide +kernel) (by decide +kernel), hb_wp (q := (yX3_valueOf, 3)) 16 (by decide +kernel) (by decide +kernel)⟩
set_option maxHeartbeats 4000000 in
set_option maxRecDepth 20000 in
theorem c_X3_valueOf {G : hb_G} {l : Launch} {z : Bool} {x0 : Nat} {x1 : Int32} {x2 : Int32} {σ : hb_M} {r : (Int32 × hb_M)} (h : f_X3_valueOf x0 x1 x2 σ = some r) : hb_Call G l z 0 0 0 mX3_valueOf [.ref x0, .int x1, .int x2] σ (.inl (some (.int r.1)), r.2) := by
  refine hb_met (by decide) (Nat.le_of_ble_eq_true rfl) ?_
  unfold f_X3_valueOf at h
  refine hs_iload_n dX3_valueOf_0 2 rfl ?_
  by_cases hc1 : x2 = (97 : Int32)
  · rw [if_pos hc1] at h
    refine hs_tblC (tgt := 166) (off := 165) (97 : Int32) dX3_valueOf_1 hc1 (by decide) (by decide) (by decide) (by decide) ?_
    refine hs_aload_n dX3_valueOf_166 0 rfl ?_
    obtain ⟨r2, h2, h⟩ := hb_bind h
    refine hs_getR dX3_valueOf_167 lkX3_9 rfl h2 ?_
    obtain ⟨r3, h3, h⟩ := hb_bind h
    refine hs_getR dX3_valueOf_170 lkX3_138 rfl h3 ?_
    refine hs_iload_n dX3_valueOf_173 1 rfl ?_
    obtain ⟨r4, h4, h⟩ := hb_bind h
    refine hs_iald dX3_valueOf_174 h4 ?_
    obtain rfl := Option.some.inj h
    exact hs_ireturn dX3_valueOf_175 rfl (by rfl) (fun _ => rfl)
  rw [if_neg hc1] at h
  by_cases hc5 : x2 = (100 : Int32)
  · rw [if_pos hc5] at h
    refine hs_tblC (tgt := 112) (off := 111) (100 : Int32) dX3_valueOf_1 hc5 (by decide) (by decide) (by decide) (by decide) ?_
    refine hs_aload_n dX3_valueOf_112 0 rfl ?_
    obtain ⟨r6, h6, h⟩ := hb_bind h
    refine hs_getR dX3_valueOf_113 lkX3_15 rfl h6 ?_
    obtain ⟨r7, h7, h⟩ := hb_bind h
    refine hs_getR dX3_valueOf_116 lkX3_123 rfl h7 ?_
    obtain ⟨r8, h8, h⟩ := hb_bind h
    refine hs_getR dX3_valueOf_119 lkX3_127 rfl h8 ?_
    refine hs_iload_n dX3_valueOf_122 1 rfl ?_
    obtain ⟨r9, h9, h⟩ := hb_bind h
    refine hs_iald dX3_valueOf_123 h9 ?_
    refine hs_iconst (v := (-1 : Int32)) dX3_valueOf_124 (by decide) ?_
    refine hs_icmp_ne (tgt := 133) dX3_valueOf_125 (by decide) (fun hc10 => ?_) (fun hc10 => ?_)
    · rw [if_neg hc10] at h
      refine hs_aload_n dX3_valueOf_133 0 rfl ?_
      obtain ⟨r11, h11, h⟩ := hb_bind h
      refine hs_getR dX3_valueOf_134 lkX3_15 rfl h11 ?_
      obtain ⟨r12, h12, h⟩ := hb_bind h
      refine hs_getR dX3_valueOf_137 lkX3_123 rfl h12 ?_
      obtain ⟨r13, h13, h⟩ := hb_bind h
      refine hs_getR dX3_valueOf_140 lkX3_127 rfl h13 ?_
      refine hs_iload_n dX3_valueOf_143 1 rfl ?_
      obtain ⟨r14, h14, h⟩ := hb_bind h
      refine hs_iald dX3_valueOf_144 h14 ?_
      obtain rfl := Option.some.inj h
      exact hs_ireturn dX3_valueOf_145 rfl (by rfl) (fun _ => rfl)
    · rw [if_pos hc10] at h
      refine hs_bipush (v := (99 : Int32)) dX3_valueOf_128 (by decide) ?_
      refine hs_goto (tgt := 145) dX3_valueOf_130 (by decide) ?_
      obtain rfl := Option.some.inj h
      exact hs_ireturn dX3_valueOf_145 rfl (by rfl) (fun _ => rfl)
  rw [if_neg hc5] at h
  by_cases hc15 : x2 = (105 : Int32)
  · rw [if_pos hc15] at h
    refine hs_tblC (tgt := 146) (off := 145) (105 : Int32) dX3_valueOf_1 hc15 (by decide) (by decide) (by decide) (by decide) ?_
    refine hs_aload_n dX3_valueOf_146 0 rfl ?_
    obtain ⟨r16, h16, h⟩ := hb_bind h
    refine hs_getR dX3_valueOf_147 lkX3_15 rfl h16 ?_
    obtain ⟨r17, h17, h⟩ := hb_bind h
    refine hs_getR dX3_valueOf_150 lkX3_132 rfl h17 ?_
    refine hs_iload_n dX3_valueOf_153 1 rfl ?_
    obtain ⟨r18, h18, h⟩ := hb_bind h
    refine hs_iald dX3_valueOf_154 h18 ?_
    obtain rfl := Option.some.inj h
    exact hs_ireturn dX3_valueOf_155 rfl (by rfl) (fun _ => rfl)
  rw [if_neg hc15] at h
  by_cases hc19 : x2 = (110 : Int32)
  · rw [if_pos hc19] at h
    refine hs_tblC (tgt := 176) (off := 175) (110 : Int32) dX3_valueOf_1 hc19 (by decide) (by decide) (by decide) (by decide) ?_
    refine hs_iload_n dX3_valueOf_176 1 rfl ?_
    obtain rfl := Option.some.inj h
    exact hs_ireturn dX3_valueOf_177 rfl (by rfl) (fun _ => rfl)
  rw [if_neg hc19] at h
  by_cases hc20 : x2 = (111 : Int32)
  · rw [if_pos hc20] at h
    refine hs_tblC (tgt := 156) (off := 155) (111 : Int32) dX3_valueOf_1 hc20 (by decide) (by decide) (by decide) (by decide) ?_
    refine hs_aload_n dX3_valueOf_156 0 rfl ?_
    obtain ⟨r21, h21, h⟩ := hb_bind h
    refine hs_getR dX3_valueOf_157 lkX3_15 rfl h21 ?_
    obtain ⟨r22, h22, h⟩ := hb_bind h
    refine hs_getR dX3_valueOf_160 lkX3_135 rfl h22 ?_
    refine hs_iload_n dX3_valueOf_163 1 rfl ?_
    obtain ⟨r23, h23, h⟩ := hb_bind h
    refine hs_iald dX3_valueOf_164 h23 ?_
    obtain rfl := Option.some.inj h
    exact hs_ireturn dX3_valueOf_165 rfl (by rfl) (fun _ => rfl)
  rw [if_neg hc20] at h
  by_cases hc24 : x2 = (114 : Int32)
  · rw [if_pos hc24] at h
    refine hs_tblC (tgt := 102) (off := 101) (114 : Int32) dX3_valueOf_1 hc24 (by decide) (by decide) (by decide) (by decide) ?_
    refine hs_aload_n dX3_valueOf_102 0 rfl ?_
    obtain ⟨r25, h25, h⟩ := hb_bind h
    refine hs_getR dX3_valueOf_103 lkX3_15 rfl h25 ?_
    obtain ⟨r26, h26, h⟩ := hb_bind h
    refine hs_getR dX3_valueOf_106 lkX3_120 rfl h26 ?_
    refine hs_iload_n dX3_valueOf_109 1 rfl ?_
    obtain ⟨r27, h27, h⟩ := hb_bind h
    refine hs_iald dX3_valueOf_110 h27 ?_
    obtain rfl := Option.some.inj h
    exact hs_ireturn dX3_valueOf_111 rfl (by rfl) (fun _ => rfl)
  rw [if_neg hc24] at h
  by_cases hc28 : x2 = (115 : Int32)
  · rw [if_pos hc28] at h
    refine hs_tblC (tgt := 92) (off := 91) (115 : Int32) dX3_valueOf_1 hc28 (by decide) (by decide) (by decide) (by decide) ?_
    refine hs_aload_n dX3_valueOf_92 0 rfl ?_
    obtain ⟨r29, h29, h⟩ := hb_bind h
    refine hs_getR dX3_valueOf_93 lkX3_9 rfl h29 ?_
    obtain ⟨r30, h30, h⟩ := hb_bind h
    refine hs_getR dX3_valueOf_96 lkX3_116 rfl h30 ?_
    refine hs_iload_n dX3_valueOf_99 1 rfl ?_
    obtain ⟨r31, h31, h⟩ := hb_bind h
    refine hs_iald dX3_valueOf_100 h31 ?_
    obtain rfl := Option.some.inj h
    exact hs_ireturn dX3_valueOf_101 rfl (by rfl) (fun _ => rfl)
  rw [if_neg hc28] at h
  refine hs_tblD (tgt := 178) [(97 : Int32), (100 : Int32), (105 : Int32), (110 : Int32), (111 : Int32), (114 : Int32), (115 : Int32)] dX3_valueOf_1 (by simp only [List.mem_cons, List.not_mem_nil, or_false, forall_eq_or_imp, forall_eq]; exact ⟨hc1, hc5, hc15, hc19, hc20, hc24, hc28⟩) (by decide) (by decide) (by decide) ?_
  refine hs_aload_n dX3_valueOf_178 0 rfl ?_
  obtain ⟨r32, h32, h⟩ := hb_bind h
  refine hs_getR dX3_valueOf_179 lkX3_9 rfl h32 ?_
  obtain ⟨r33, h33, h⟩ := hb_bind h
  refine hs_getR dX3_valueOf_182 lkX3_141 rfl h33 ?_
  refine hs_iload_n dX3_valueOf_185 1 rfl ?_
  obtain ⟨r34, h34, h⟩ := hb_bind h
  refine hs_iald dX3_valueOf_186 h34 ?_
  obtain rfl := Option.some.inj h
  exact hs_ireturn dX3_valueOf_187 rfl (by rfl) (fun _ => rfl)
def mX3_isSo : hb_Y := (yX3_isSo, cX3_isSo, 3, (some .boolean), [], false)
theorem okX3_isSo : hb_okS mX3_isSo 3 := ⟨⟨hb_w 8 (by decide +kernel) (by decide +kernel), hb_w 633 (by decide +kernel) (by decide +kernel), ⟨by decide +kernel, by decide +kernel, by decide +kernel⟩, by decide⟩, hb_w 632 (by decide +kernel) (by decide +kernel)⟩
set_option maxHeartbeats 4000000 in
set_option maxRecDepth 20000 in
theorem c_X3_isSo {G : hb_G} {l : Launch} {z : Bool} {x0 : Int32} {x1 : Int32} {x2 : Int32} {σ : hb_M} {r : (Int32 × hb_M)} (h : f_X3_isSo x0 x1 x2 σ = some r) : hb_Call G l z 0 0 0 mX3_isSo [.int x0, .int x1, .int x2] σ (.inl (some (.int r.1)), r.2) := by
  refine hb_met (by decide) (Nat.le_of_ble_eq_true rfl) ?_
  unfold f_X3_isSo at h
  refine hs_iload_n dX3_isSo_0 1 rfl ?_
  by_cases hc1 : x1 = (60 : Int32)
  · rw [if_pos hc1] at h
    refine hs_lkpC (tgt := 28) (off := 27) (60 : Int32) dX3_isSo_1 (by decide) hc1 (by decide) (by decide) ?_
    refine hs_iload_n dX3_isSo_28 0 rfl ?_
    refine hs_iload_n dX3_isSo_29 2 rfl ?_
    refine hs_icmp_ge (tgt := 37) dX3_isSo_30 (by decide) (fun hc2 => ?_) (fun hc2 => ?_)
    · rw [if_pos hc2] at h
      refine hs_iconst (v := (0 : Int32)) dX3_isSo_37 (by decide) ?_
      obtain rfl := Option.some.inj h
      exact hs_ireturn dX3_isSo_38 rfl (by decide) (fun _ => rfl)
    · rw [if_neg hc2] at h
      refine hs_iconst (v := (1 : Int32)) dX3_isSo_33 (by decide) ?_
      refine hs_goto (tgt := 38) dX3_isSo_34 (by decide) ?_
      obtain rfl := Option.some.inj h
      exact hs_ireturn dX3_isSo_38 rfl (by decide) (fun _ => rfl)
  rw [if_neg hc1] at h
  by_cases hc3 : x1 = (61 : Int32)
  · rw [if_pos hc3] at h
    refine hs_lkpC (tgt := 39) (off := 38) (61 : Int32) dX3_isSo_1 (by decide) hc3 (by decide) (by decide) ?_
    refine hs_iload_n dX3_isSo_39 0 rfl ?_
    refine hs_iload_n dX3_isSo_40 2 rfl ?_
    refine hs_icmp_ne (tgt := 48) dX3_isSo_41 (by decide) (fun hc4 => ?_) (fun hc4 => ?_)
    · rw [if_neg hc4] at h
      refine hs_iconst (v := (0 : Int32)) dX3_isSo_48 (by decide) ?_
      obtain rfl := Option.some.inj h
      exact hs_ireturn dX3_isSo_49 rfl (by decide) (fun _ => rfl)
    · rw [if_pos hc4] at h
      refine hs_iconst (v := (1 : Int32)) dX3_isSo_44 (by decide) ?_
      refine hs_goto (tgt := 49) dX3_isSo_45 (by decide) ?_
      obtain rfl := Option.some.inj h
      exact hs_ireturn dX3_isSo_49 rfl (by decide) (fun _ => rfl)
  rw [if_neg hc3] at h
  refine hs_lkpD (tgt := 50) [(60 : Int32), (61 : Int32)] dX3_isSo_1 (by decide) (by simp only [List.mem_cons, List.not_mem_nil, or_false, forall_eq_or_imp, forall_eq]; exact ⟨hc1, hc3⟩) (by decide) (by decide) ?_
  refine hs_iload_n dX3_isSo_50 0 rfl ?_
  refine hs_iload_n dX3_isSo_51 2 rfl ?_
  refine hs_icmp_le (tgt := 59) dX3_isSo_52 (by decide) (fun hc5 => ?_) (fun hc5 => ?_)
  · rw [if_pos hc5] at h
    refine hs_iconst (v := (0 : Int32)) dX3_isSo_59 (by decide) ?_
    obtain rfl := Option.some.inj h
    exact hs_ireturn dX3_isSo_60 rfl (by decide) (fun _ => rfl)
  · rw [if_neg hc5] at h
    refine hs_iconst (v := (1 : Int32)) dX3_isSo_55 (by decide) ?_
    refine hs_goto (tgt := 60) dX3_isSo_56 (by decide) ?_
    obtain rfl := Option.some.inj h
    exact hs_ireturn dX3_isSo_60 rfl (by decide) (fun _ => rfl)
def mX3_relation : hb_Y := (yX3_relation, cX3_relation, 8, (some .long), [], false)
theorem okX3_relation : hb_okV mX3_relation 0 := ⟨⟨hb_w 8 (by decide +kernel) (by decide +kernel), hb_w 535 (by decide +kernel) (by decide +kernel), ⟨by decide +kernel, by decide +kernel, by decide +kernel⟩, by decide⟩, hb_w 534 (by decide +kernel) (by decide +kernel), hb_wp (q := (yX3_relation, 3)) 15 (by decide +kernel) (by decide +kernel)⟩
set_option maxHeartbeats 4000000 in
set_option maxRecDepth 20000 in
theorem c_X3_relation_b102 {G : hb_G} {l : Launch} {z : Bool}  (k35 : Nat → Int32 → Int32 → Int32 → Int64 → Int32 → hb_M → Option (Int64 × hb_M)) (hk35 : ∀ (x0 : Nat) (x1 : Int32) (x2 : Int32) (x3 : Int32) (x4 : Int64) (x6 : Int32) (σ : hb_M) (r : (Int64 × hb_M)), k35 x0 x1 x2 x3 x4 x6 σ = some r → hb_T G l z mX3_relation 5 0 0 35 [(0, .ref x0), (1, .int x1), (2, .int x2), (3, .int x3), (4, .long x4), (6, .int x6)] [] σ (.inl (some (.long r.1)), r.2))  {x0 : Nat} {x1 : Int32} {x2 : Int32} {x3 : Int32} {x6 : Int32} {s0 : Int64} {s1 : Int64} {σ : hb_M} {r : (Int64 × hb_M)} (h : f_X3_relation_b102 k35 x0 x1 x2 x3 x6 s0 s1 σ = some r) : hb_T G l z mX3_relation 5 0 0 102 [(0, .ref x0), (1, .int x1), (2, .int x2), (3, .int x3), (6, .int x6)] [.long s1, .long s0] σ (.inl (some (.long r.1)), r.2) := by
  unfold f_X3_relation_b102 at h
  refine hs_lor dX3_relation_102 ?_
  refine hs_lstore (lv' := [(4, .long (s0 ||| s1)), (0, .ref x0), (1, .int x1), (2, .int x2), (3, .int x3), (6, .int x6)]) dX3_relation_103 (by decide) rfl ?_
  refine hs_iinc2 (k := (1 : Int32)) (lv' := [(6, .int (x6 + (1 : Int32))), (4, .long (s0 ||| s1)), (0, .ref x0), (1, .int x1), (2, .int x2), (3, .int x3)]) dX3_relation_105 (by decide) 5 rfl (by decide) rfl ?_
  refine hs_goto (tgt := 35) dX3_relation_108 (by decide) ?_
  refine hs_sub (lv' := [(0, .ref x0), (1, .int x1), (2, .int x2), (3, .int x3), (4, .long (s0 ||| s1)), (6, .int (x6 + (1 : Int32)))]) [2, 3, 4, 5, 1, 0] rfl ?_
  exact hk35 _ _ _ _ _ _ _ _ h
set_option maxHeartbeats 4000000 in
set_option maxRecDepth 20000 in
theorem c_X3_relation_b84 {G : hb_G} {l : Launch} {z : Bool}  (k35 : Nat → Int32 → Int32 → Int32 → Int64 → Int32 → hb_M → Option (Int64 × hb_M)) (hk35 : ∀ (x0 : Nat) (x1 : Int32) (x2 : Int32) (x3 : Int32) (x4 : Int64) (x6 : Int32) (σ : hb_M) (r : (Int64 × hb_M)), k35 x0 x1 x2 x3 x4 x6 σ = some r → hb_T G l z mX3_relation 5 0 0 35 [(0, .ref x0), (1, .int x1), (2, .int x2), (3, .int x3), (4, .long x4), (6, .int x6)] [] σ (.inl (some (.long r.1)), r.2))  {x0 : Nat} {x1 : Int32} {x2 : Int32} {x3 : Int32} {x4 : Int64} {x6 : Int32} {s0 : Int32} {σ : hb_M} {r : (Int64 × hb_M)} (h : f_X3_relation_b84 k35 x0 x1 x2 x3 x4 x6 s0 σ = some r) : hb_T G l z mX3_relation 5 0 0 84 [(0, .ref x0), (1, .int x1), (2, .int x2), (3, .int x3), (4, .long x4), (6, .int x6)] [.int s0] σ (.inl (some (.long r.1)), r.2) := by
  unfold f_X3_relation_b84 at h
  refine hs_istore (lv' := [(7, .int s0), (0, .ref x0), (1, .int x1), (2, .int x2), (3, .int x3), (4, .long x4), (6, .int x6)]) dX3_relation_84 (by decide) rfl ?_
  refine hs_lload dX3_relation_86 5 rfl ?_
  refine hs_iload dX3_relation_88 0 rfl ?_
  refine hs_if_eq (tgt := 101) dX3_relation_90 (by decide) (fun hc1 => ?_) (fun hc1 => ?_)
  · rw [if_pos hc1] at h
    refine hs_lconst (v := (0 : Int64)) dX3_relation_101 (by decide) ?_
    refine hs_sub (lv' := [(0, .ref x0), (1, .int x1), (2, .int x2), (3, .int x3), (6, .int x6)]) [1, 2, 3, 4, 6] rfl ?_
    exact c_X3_relation_b102 k35 hk35 h
  · rw [if_neg hc1] at h
    refine hs_iload dX3_relation_93 6 rfl ?_
    obtain ⟨r2, h2, h⟩ := hb_bind h
    refine hs_callSNl (μ' := mX8_member) (mc := 0) (ms := 0) (rc := 0) (rs := 0) (As := [.int x6]) (rest := [.long x4]) dX3_relation_95 lnX3_113 okX8_member rfl (by decide) rfl (Nat.le_of_ble_eq_true rfl) (c_X8_member h2) ?_
    refine hs_goto (tgt := 102) dX3_relation_98 (by decide) ?_
    refine hs_sub (lv' := [(0, .ref x0), (1, .int x1), (2, .int x2), (3, .int x3), (6, .int x6)]) [1, 2, 3, 4, 6] rfl ?_
    exact c_X3_relation_b102 k35 hk35 h
set_option maxHeartbeats 4000000 in
set_option maxRecDepth 20000 in
theorem c_X3_relation_b83 {G : hb_G} {l : Launch} {z : Bool}  (k35 : Nat → Int32 → Int32 → Int32 → Int64 → Int32 → hb_M → Option (Int64 × hb_M)) (hk35 : ∀ (x0 : Nat) (x1 : Int32) (x2 : Int32) (x3 : Int32) (x4 : Int64) (x6 : Int32) (σ : hb_M) (r : (Int64 × hb_M)), k35 x0 x1 x2 x3 x4 x6 σ = some r → hb_T G l z mX3_relation 5 0 0 35 [(0, .ref x0), (1, .int x1), (2, .int x2), (3, .int x3), (4, .long x4), (6, .int x6)] [] σ (.inl (some (.long r.1)), r.2))  {x0 : Nat} {x1 : Int32} {x2 : Int32} {x3 : Int32} {x4 : Int64} {x6 : Int32} {σ : hb_M} {r : (Int64 × hb_M)} (h : f_X3_relation_b83 k35 x0 x1 x2 x3 x4 x6 σ = some r) : hb_T G l z mX3_relation 5 0 0 83 [(0, .ref x0), (1, .int x1), (2, .int x2), (3, .int x3), (4, .long x4), (6, .int x6)] [] σ (.inl (some (.long r.1)), r.2) := by
  unfold f_X3_relation_b83 at h
  refine hs_iconst (v := (0 : Int32)) dX3_relation_83 (by decide) ?_
  refine hs_sub (lv' := [(0, .ref x0), (1, .int x1), (2, .int x2), (3, .int x3), (4, .long x4), (6, .int x6)]) [0, 1, 2, 3, 4, 5] rfl ?_
  exact c_X3_relation_b84 k35 hk35 h
set_option maxHeartbeats 4000000 in
set_option maxRecDepth 20000 in
theorem c_X3_relation_b35 {G : hb_G} {l : Launch} {z : Bool} : ∀ (n : Nat) (x0 : Nat) (x1 : Int32) (x2 : Int32) (x3 : Int32) (x4 : Int64) (x6 : Int32) (σ : hb_M) (r : (Int64 × hb_M)), f_X3_relation_b35 n x0 x1 x2 x3 x4 x6 σ = some r → hb_T G l z mX3_relation 5 0 0 35 [(0, .ref x0), (1, .int x1), (2, .int x2), (3, .int x3), (4, .long x4), (6, .int x6)] [] σ (.inl (some (.long r.1)), r.2) := by
  intro n
  induction n with
  | zero =>
    intro x0 x1 x2 x3 x4 x6 σ r h
    cases h
  | succ n ih =>
    intro x0 x1 x2 x3 x4 x6 σ r h
    rw [f_X3_relation_b35] at h
    refine hs_iload dX3_relation_35 5 rfl ?_
    refine hs_bipush (v := (40 : Int32)) dX3_relation_37 (by decide) ?_
    refine hs_icmp_ge (tgt := 111) dX3_relation_39 (by decide) (fun hc1 => ?_) (fun hc1 => ?_)
    · rw [if_pos hc1] at h
      refine hs_lload dX3_relation_111 4 rfl ?_
      obtain rfl := Option.some.inj h
      exact hs_lreturn dX3_relation_113 rfl (fun _ => rfl)
    · rw [if_neg hc1] at h
      refine hs_aload_n dX3_relation_42 0 rfl ?_
      obtain ⟨r2, h2, h⟩ := hb_bind h
      refine hs_getR dX3_relation_43 lkX3_19 rfl h2 ?_
      obtain ⟨r3, h3, h⟩ := hb_bind h
      refine hs_getI dX3_relation_46 lkX3_98 rfl h3 ?_
      refine hs_if_ne (tgt := 111) dX3_relation_49 (by decide) (fun hc4 => ?_) (fun hc4 => ?_)
      · rw [if_neg hc4] at h
        refine hs_lload dX3_relation_111 4 rfl ?_
        obtain rfl := Option.some.inj h
        exact hs_lreturn dX3_relation_113 rfl (fun _ => rfl)
      · rw [if_pos hc4] at h
        refine hs_aload_n dX3_relation_52 0 rfl ?_
        obtain ⟨r5, h5, h⟩ := hb_bind h
        refine hs_getR dX3_relation_53 lkX3_9 rfl h5 ?_
        refine hs_iload dX3_relation_56 5 rfl ?_
        obtain ⟨r6, h6, h⟩ := hb_bind h
        obtain ⟨h6, nf6, hb6⟩ := hb_on_at h6
        refine hs_callVi (μ' := mX4_hasObject) (mc := 0) (ms := 0) (rc := 0) (rs := 0) (As := [.int x6]) (rest := []) (ci := 4) dX3_relation_58 lmX3_102 okX4_hasObject rfl (by decide) rfl (Nat.le_of_ble_eq_true rfl) rfl hb6 (c_X4_hasObject h6) ?_
        refine hs_if_eq (tgt := 83) dX3_relation_61 (by decide) (fun hc7 => ?_) (fun hc7 => ?_)
        · rw [if_pos hc7] at h
          refine hs_sub (lv' := [(0, .ref x0), (1, .int x1), (2, .int x2), (3, .int x3), (4, .long x4), (6, .int x6)]) [0, 1, 2, 3, 4, 5] rfl ?_
          exact c_X3_relation_b83 (f_X3_relation_b35 n) ih h
        · rw [if_neg hc7] at h
          refine hs_aload_n dX3_relation_64 0 rfl ?_
          refine hs_iload dX3_relation_65 5 rfl ?_
          refine hs_iload_n dX3_relation_67 1 rfl ?_
          obtain ⟨r8, h8, h⟩ := hb_bind h
          obtain ⟨h8, nf8, hb8⟩ := hb_on_at h8
          refine hs_callVi (μ' := mX3_valueOf) (mc := 0) (ms := 0) (rc := 0) (rs := 0) (As := [.int x6, .int x1]) (rest := []) (ci := 3) dX3_relation_68 lmX3_105 okX3_valueOf rfl (by decide) rfl (Nat.le_of_ble_eq_true rfl) rfl hb8 (c_X3_valueOf h8) ?_
          refine hs_iload_n dX3_relation_71 2 rfl ?_
          refine hs_iload_n dX3_relation_72 3 rfl ?_
          obtain ⟨r9, h9, h⟩ := hb_bind h
          refine hs_callSi (μ' := mX3_isSo) (mc := 0) (ms := 0) (rc := 0) (rs := 0) (As := [.int r8.1, .int x2, .int x3]) (rest := []) dX3_relation_73 lmX3_109 okX3_isSo rfl (by decide) rfl (Nat.le_of_ble_eq_true rfl) (c_X3_isSo h9) ?_
          refine hs_if_eq (tgt := 83) dX3_relation_76 (by decide) (fun hc10 => ?_) (fun hc10 => ?_)
          · rw [if_pos hc10] at h
            refine hs_sub (lv' := [(0, .ref x0), (1, .int x1), (2, .int x2), (3, .int x3), (4, .long x4), (6, .int x6)]) [0, 1, 2, 3, 4, 5] rfl ?_
            exact c_X3_relation_b83 (f_X3_relation_b35 n) ih h
          · rw [if_neg hc10] at h
            refine hs_iconst (v := (1 : Int32)) dX3_relation_79 (by decide) ?_
            refine hs_goto (tgt := 84) dX3_relation_80 (by decide) ?_
            refine hs_sub (lv' := [(0, .ref x0), (1, .int x1), (2, .int x2), (3, .int x3), (4, .long x4), (6, .int x6)]) [0, 1, 2, 3, 4, 5] rfl ?_
            exact c_X3_relation_b84 (f_X3_relation_b35 n) ih h
set_option maxHeartbeats 4000000 in
set_option maxRecDepth 20000 in
theorem c_X3_relation {G : hb_G} {l : Launch} {z : Bool} {x0 : Nat} {σ : hb_M} {r : (Int64 × hb_M)} (h : f_X3_relation x0 σ = some r) : hb_Call G l z 5 0 0 mX3_relation [.ref x0] σ (.inl (some (.long r.1)), r.2) := by
  refine hb_met (by decide) (Nat.le_of_ble_eq_true rfl) ?_
  unfold f_X3_relation at h
  refine hs_aload_n dX3_relation_0 0 rfl ?_
  obtain ⟨r1, h1, h⟩ := hb_bind h
  refine hs_getR dX3_relation_1 lkX3_19 rfl h1 ?_
  refine hs_ldcS dX3_relation_4 (i := 0) (tx := "srdioang") (by decide +kernel) ?_
  obtain ⟨r2, h2, h⟩ := hb_bind h
  obtain ⟨h2, nf2, hb2⟩ := hb_on_at h2
  refine hs_callVi (μ' := mX7_oneOf) (mc := 0) (ms := 0) (rc := 0) (rs := 0) (As := [.retAddr 1]) (rest := []) (ci := 7) dX3_relation_6 lmX3_92 okX7_oneOf rfl (by decide) rfl (Nat.le_of_ble_eq_true rfl) rfl hb2 (c_X7_oneOf h2) ?_
  refine hs_istore_n (lv' := [(1, .int r2.1), (0, .ref x0)]) dX3_relation_9 (by decide) rfl ?_
  refine hs_aload_n dX3_relation_10 1 rfl ?_
  obtain ⟨r3, h3, h⟩ := hb_bind h
  refine hs_getR dX3_relation_11 lkX3_19 rfl h3 ?_
  refine hs_ldcS dX3_relation_14 (i := 1) (tx := "<=>") (by decide +kernel) ?_
  obtain ⟨r4, h4, h⟩ := hb_bind h
  obtain ⟨h4, nf4, hb4⟩ := hb_on_at h4
  refine hs_callVi (μ' := mX7_oneOf) (mc := 0) (ms := 0) (rc := 0) (rs := 0) (As := [.retAddr 2]) (rest := []) (ci := 7) dX3_relation_16 lmX3_92 okX7_oneOf rfl (by decide) rfl (Nat.le_of_ble_eq_true rfl) rfl hb4 (c_X7_oneOf h4) ?_
  refine hs_istore_n (lv' := [(2, .int r4.1), (1, .int r2.1), (0, .ref x0)]) dX3_relation_19 (by decide) rfl ?_
  refine hs_aload_n dX3_relation_20 2 rfl ?_
  obtain ⟨r5, h5, h⟩ := hb_bind h
  refine hs_getR dX3_relation_21 lkX3_19 rfl h5 ?_
  refine hs_iconst (v := (4 : Int32)) dX3_relation_24 (by decide) ?_
  obtain ⟨r6, h6, h⟩ := hb_bind h
  obtain ⟨h6, nf6, hb6⟩ := hb_on_at h6
  refine hs_callVi (μ' := mX7_number) (mc := 0) (ms := 0) (rc := 0) (rs := 0) (As := [.int (4 : Int32)]) (rest := []) (ci := 7) dX3_relation_25 lmX3_67 okX7_number rfl (by decide) rfl (Nat.le_of_ble_eq_true rfl) rfl hb6 (c_X7_number h6) ?_
  refine hs_istore_n (lv' := [(3, .int r6.1), (2, .int r4.1), (1, .int r2.1), (0, .ref x0)]) dX3_relation_28 (by decide) rfl ?_
  refine hs_lconst (v := (0 : Int64)) dX3_relation_29 (by decide) ?_
  refine hs_lstore (lv' := [(4, .long (0 : Int64)), (3, .int r6.1), (2, .int r4.1), (1, .int r2.1), (0, .ref x0)]) dX3_relation_30 (by decide) rfl ?_
  refine hs_iconst (v := (0 : Int32)) dX3_relation_32 (by decide) ?_
  refine hs_istore (lv' := [(6, .int (0 : Int32)), (4, .long (0 : Int64)), (3, .int r6.1), (2, .int r4.1), (1, .int r2.1), (0, .ref x0)]) dX3_relation_33 (by decide) rfl ?_
  refine hs_sub (lv' := [(0, .ref x0), (1, .int r2.1), (2, .int r4.1), (3, .int r6.1), (4, .long (0 : Int64)), (6, .int (0 : Int32))]) [5, 4, 3, 2, 1, 0] rfl ?_
  exact c_X3_relation_b35 hb_FU _ _ _ _ _ _ _ _ h
def mX3_unit : hb_Y := (yX3_unit, cX3_unit, 5, (some .long), [], false)
theorem okX3_unit : hb_okV mX3_unit 1 := ⟨⟨hb_w 8 (by decide +kernel) (by decide +kernel), hb_w 489 (by decide +kernel) (by decide +kernel), ⟨by decide +kernel, by decide +kernel, by decide +kernel⟩, by decide⟩, hb_w 488 (by decide +kernel) (by decide +kernel), hb_wp (q := (yX3_unit, 3)) 12 (by decide +kernel) (by decide +kernel)⟩
set_option maxHeartbeats 4000000 in
set_option maxRecDepth 20000 in
theorem c_X3_unit_b99 {G : hb_G} {l : Launch} {z : Bool} {dF : Nat} (kF : Nat → Int32 → hb_M → Option (Int64 × hb_M)) (hkF : ∀ (x0 : Nat) (x1 : Int32) (σ : hb_M) (r : Int64 × hb_M), kF x0 x1 σ = some r → hb_Call G l z dF 0 0 mX3_filter [.ref x0, .int x1] σ (.inl (some (.long r.1)), r.2))  {x0 : Nat} {x2 : Int32} {x3 : Int64} {σ : hb_M} {r : (Int64 × hb_M)} (h : f_X3_unit_b99 kF x0 x2 x3 σ = some r) : hb_T G l z mX3_unit (dF + 6) 0 0 99 [(0, .ref x0), (2, .int x2), (3, .long x3)] [] σ (.inl (some (.long r.1)), r.2) := by
  unfold f_X3_unit_b99 at h
  refine hs_iload_n dX3_unit_99 1 rfl ?_
  refine hs_if_eq (tgt := 119) dX3_unit_100 (by decide) (fun hc1 => ?_) (fun hc1 => ?_)
  · rw [if_pos hc1] at h
    refine hs_lload_n dX3_unit_119 2 rfl ?_
    obtain rfl := Option.some.inj h
    exact hs_lreturn dX3_unit_120 rfl (fun _ => rfl)
  · rw [if_neg hc1] at h
    refine hs_aload_n dX3_unit_103 0 rfl ?_
    obtain ⟨r2, h2, h⟩ := hb_bind h
    refine hs_getR dX3_unit_104 lkX3_9 rfl h2 ?_
    obtain ⟨r3, h3, h⟩ := hb_bind h
    obtain ⟨h3, nf3, hb3⟩ := hb_on_at h3
    refine hs_callVl (μ' := mX4_allObjects) (mc := 0) (ms := 0) (rc := 0) (rs := 0) (As := []) (rest := []) (ci := 4) dX3_unit_107 lmX3_77 okX4_allObjects rfl (by omega) rfl (Nat.le_of_ble_eq_true rfl) rfl hb3 (c_X4_allObjects h3) ?_
    refine hs_lload_n dX3_unit_110 2 rfl ?_
    refine hs_ldc2 (v := (-1 : Int64)) dX3_unit_111 wd_636 ?_
    refine hs_lxor dX3_unit_114 ?_
    refine hs_land dX3_unit_115 ?_
    refine hs_goto (tgt := 120) dX3_unit_116 (by decide) ?_
    obtain rfl := Option.some.inj h
    exact hs_lreturn dX3_unit_120 rfl (fun _ => rfl)
set_option maxHeartbeats 4000000 in
set_option maxRecDepth 20000 in
theorem c_X3_unit_b43 {G : hb_G} {l : Launch} {z : Bool} {dF : Nat} (kF : Nat → Int32 → hb_M → Option (Int64 × hb_M)) (hkF : ∀ (x0 : Nat) (x1 : Int32) (σ : hb_M) (r : Int64 × hb_M), kF x0 x1 σ = some r → hb_Call G l z dF 0 0 mX3_filter [.ref x0, .int x1] σ (.inl (some (.long r.1)), r.2))  {x0 : Nat} {x2 : Int32} {σ : hb_M} {r : (Int64 × hb_M)} (h : f_X3_unit_b43 kF x0 x2 σ = some r) : hb_T G l z mX3_unit (dF + 6) 0 0 43 [(0, .ref x0), (2, .int x2)] [] σ (.inl (some (.long r.1)), r.2) := by
  unfold f_X3_unit_b43 at h
  refine hs_aload_n dX3_unit_43 0 rfl ?_
  obtain ⟨r1, h1, h⟩ := hb_bind h
  refine hs_getR dX3_unit_44 lkX3_19 rfl h1 ?_
  refine hs_bipush (v := (42 : Int32)) dX3_unit_47 (by decide) ?_
  obtain ⟨r2, h2, h⟩ := hb_bind h
  obtain ⟨h2, nf2, hb2⟩ := hb_on_at h2
  refine hs_callVi (μ' := mX7_skip) (mc := 0) (ms := 0) (rc := 0) (rs := 0) (As := [.int (42 : Int32)]) (rest := []) (ci := 7) dX3_unit_49 lmX3_47 okX7_skip rfl (by omega) rfl (Nat.le_of_ble_eq_true rfl) rfl hb2 (c_X7_skip h2) ?_
  refine hs_if_eq (tgt := 66) dX3_unit_52 (by decide) (fun hc3 => ?_) (fun hc3 => ?_)
  · rw [if_pos hc3] at h
    refine hs_aload_n dX3_unit_66 0 rfl ?_
    obtain ⟨r4, h4, h⟩ := hb_bind h
    refine hs_getR dX3_unit_67 lkX3_19 rfl h4 ?_
    refine hs_bipush (v := (64 : Int32)) dX3_unit_70 (by decide) ?_
    obtain ⟨r5, h5, h⟩ := hb_bind h
    obtain ⟨h5, nf5, hb5⟩ := hb_on_at h5
    refine hs_callVi (μ' := mX7_skip) (mc := 0) (ms := 0) (rc := 0) (rs := 0) (As := [.int (64 : Int32)]) (rest := []) (ci := 7) dX3_unit_72 lmX3_47 okX7_skip rfl (by omega) rfl (Nat.le_of_ble_eq_true rfl) rfl hb5 (c_X7_skip h5) ?_
    refine hs_if_eq (tgt := 94) dX3_unit_75 (by decide) (fun hc6 => ?_) (fun hc6 => ?_)
    · rw [if_pos hc6] at h
      refine hs_aload_n dX3_unit_94 0 rfl ?_
      obtain ⟨r7, h7, h⟩ := hb_bind h
      obtain ⟨h7, nf7, hb7⟩ := hb_on_at h7
      refine hs_callVl (μ' := mX3_relation) (mc := 0) (ms := 0) (rc := 0) (rs := 0) (As := []) (rest := []) (ci := 3) dX3_unit_95 lmX3_74 okX3_relation rfl (by omega) rfl (Nat.le_of_ble_eq_true rfl) rfl hb7 (c_X3_relation h7) ?_
      refine hs_lstore_n (lv' := [(3, .long r7.1), (0, .ref x0), (2, .int x2)]) dX3_unit_98 (by decide) rfl ?_
      refine hs_sub (lv' := [(0, .ref x0), (2, .int x2), (3, .long r7.1)]) [1, 2, 0] rfl ?_
      exact c_X3_unit_b99 kF hkF h
    · rw [if_neg hc6] at h
      refine hs_aload_n dX3_unit_78 0 rfl ?_
      refine hs_aload_n dX3_unit_79 0 rfl ?_
      obtain ⟨r8, h8, h⟩ := hb_bind h
      refine hs_getR dX3_unit_80 lkX3_19 rfl h8 ?_
      refine hs_iconst (v := (1 : Int32)) dX3_unit_83 (by decide) ?_
      obtain ⟨r9, h9, h⟩ := hb_bind h
      obtain ⟨h9, nf9, hb9⟩ := hb_on_at h9
      refine hs_callVi (μ' := mX7_number) (mc := 0) (ms := 0) (rc := 0) (rs := 0) (As := [.int (1 : Int32)]) (rest := [.ref x0]) (ci := 7) dX3_unit_84 lmX3_67 okX7_number rfl (by omega) rfl (Nat.le_of_ble_eq_true rfl) rfl hb9 (c_X7_number h9) ?_
      obtain ⟨r10, h10, h⟩ := hb_bind h
      obtain ⟨h10, nf10, hb10⟩ := hb_on_at h10
      refine hs_callVl (μ' := mX3_instancesOf) (mc := 0) (ms := 0) (rc := 0) (rs := 0) (As := [.int r9.1]) (rest := []) (ci := 3) dX3_unit_87 lmX3_71 okX3_instancesOf rfl (by omega) rfl (Nat.le_of_ble_eq_true rfl) rfl hb10 (c_X3_instancesOf h10) ?_
      refine hs_lstore_n (lv' := [(3, .long r10.1), (0, .ref x0), (2, .int x2)]) dX3_unit_90 (by decide) rfl ?_
      refine hs_goto (tgt := 99) dX3_unit_91 (by decide) ?_
      refine hs_sub (lv' := [(0, .ref x0), (2, .int x2), (3, .long r10.1)]) [1, 2, 0] rfl ?_
      exact c_X3_unit_b99 kF hkF h
  · rw [if_neg hc3] at h
    refine hs_aload_n dX3_unit_55 0 rfl ?_
    obtain ⟨r11, h11, h⟩ := hb_bind h
    refine hs_getR dX3_unit_56 lkX3_9 rfl h11 ?_
    obtain ⟨r12, h12, h⟩ := hb_bind h
    obtain ⟨h12, nf12, hb12⟩ := hb_on_at h12
    refine hs_callVl (μ' := mX4_allRoots) (mc := 0) (ms := 0) (rc := 0) (rs := 0) (As := []) (rest := []) (ci := 4) dX3_unit_59 lmX3_61 okX4_allRoots rfl (by omega) rfl (Nat.le_of_ble_eq_true rfl) rfl hb12 (c_X4_allRoots h12) ?_
    refine hs_lstore_n (lv' := [(3, .long r12.1), (0, .ref x0), (2, .int x2)]) dX3_unit_62 (by decide) rfl ?_
    refine hs_goto (tgt := 99) dX3_unit_63 (by decide) ?_
    refine hs_sub (lv' := [(0, .ref x0), (2, .int x2), (3, .long r12.1)]) [1, 2, 0] rfl ?_
    exact c_X3_unit_b99 kF hkF h
set_option maxHeartbeats 4000000 in
set_option maxRecDepth 20000 in
theorem c_X3_unit {G : hb_G} {l : Launch} {z : Bool} {dF : Nat} (kF : Nat → Int32 → hb_M → Option (Int64 × hb_M)) (hkF : ∀ (x0 : Nat) (x1 : Int32) (σ : hb_M) (r : Int64 × hb_M), kF x0 x1 σ = some r → hb_Call G l z dF 0 0 mX3_filter [.ref x0, .int x1] σ (.inl (some (.long r.1)), r.2)) {x0 : Nat} {x1 : Int32} {σ : hb_M} {r : (Int64 × hb_M)} (h : f_X3_unit kF x0 x1 σ = some r) : hb_Call G l z (dF + 6) 0 0 mX3_unit [.ref x0, .int x1] σ (.inl (some (.long r.1)), r.2) := by
  refine hb_met (by decide) (Nat.le_of_ble_eq_true rfl) ?_
  unfold f_X3_unit at h
  refine hs_aload_n dX3_unit_0 0 rfl ?_
  obtain ⟨r1, h1, h⟩ := hb_bind h
  obtain ⟨h1, nf1, hb1⟩ := hb_on_at h1
  refine hs_callVi (μ' := mX3_negated) (mc := 0) (ms := 0) (rc := 0) (rs := 0) (As := []) (rest := []) (ci := 3) dX3_unit_1 lmX3_54 okX3_negated rfl (by omega) rfl (Nat.le_of_ble_eq_true rfl) rfl hb1 (c_X3_negated h1) ?_
  refine hs_istore_n (lv' := [(2, .int r1.1), (0, .ref x0), (1, .int x1)]) dX3_unit_4 (by decide) rfl ?_
  refine hs_iload_n dX3_unit_5 2 rfl ?_
  refine hs_bipush (v := (8 : Int32)) dX3_unit_6 (by decide) ?_
  refine hs_icmp_ge (tgt := 43) dX3_unit_8 (by decide) (fun hc2 => ?_) (fun hc2 => ?_)
  · rw [if_pos hc2] at h
    refine hs_sub (lv' := [(0, .ref x0), (2, .int r1.1)]) [1, 0] rfl ?_
    exact c_X3_unit_b43 kF hkF h
  · rw [if_neg hc2] at h
    refine hs_aload_n dX3_unit_11 1 rfl ?_
    obtain ⟨r3, h3, h⟩ := hb_bind h
    refine hs_getR dX3_unit_12 lkX3_19 rfl h3 ?_
    refine hs_bipush (v := (40 : Int32)) dX3_unit_15 (by decide) ?_
    obtain ⟨r4, h4, h⟩ := hb_bind h
    obtain ⟨h4, nf4, hb4⟩ := hb_on_at h4
    refine hs_callVi (μ' := mX7_skip) (mc := 0) (ms := 0) (rc := 0) (rs := 0) (As := [.int (40 : Int32)]) (rest := []) (ci := 7) dX3_unit_17 lmX3_47 okX7_skip rfl (by omega) rfl (Nat.le_of_ble_eq_true rfl) rfl hb4 (c_X7_skip h4) ?_
    refine hs_if_eq (tgt := 43) dX3_unit_20 (by decide) (fun hc5 => ?_) (fun hc5 => ?_)
    · rw [if_pos hc5] at h
      refine hs_sub (lv' := [(0, .ref x0), (2, .int r1.1)]) [1, 0] rfl ?_
      exact c_X3_unit_b43 kF hkF h
    · rw [if_neg hc5] at h
      refine hs_aload_n dX3_unit_23 1 rfl ?_
      refine hs_iload_n dX3_unit_24 2 rfl ?_
      refine hs_iconst (v := (1 : Int32)) dX3_unit_25 (by decide) ?_
      refine hs_iadd dX3_unit_26 ?_
      obtain ⟨r6, h6, h⟩ := hb_bind h
      obtain ⟨h6, nf6, hb6⟩ := hb_on_at h6
      refine hs_callVl (μ' := mX3_filter) (mc := 0) (ms := 0) (rc := 0) (rs := 0) (As := [.int (x1 + (1 : Int32))]) (rest := []) (ci := 3) dX3_unit_27 lmX3_33 okX3_filter rfl (by omega) rfl (Nat.le_of_ble_eq_true rfl) rfl hb6 (hkF _ _ _ _ h6) ?_
      refine hs_lstore_n (lv' := [(3, .long r6.1), (2, .int r1.1), (0, .ref x0), (1, .int x1)]) dX3_unit_30 (by decide) rfl ?_
      refine hs_aload_n dX3_unit_31 2 rfl ?_
      obtain ⟨r7, h7, h⟩ := hb_bind h
      refine hs_getR dX3_unit_32 lkX3_19 rfl h7 ?_
      refine hs_bipush (v := (41 : Int32)) dX3_unit_35 (by decide) ?_
      obtain ⟨r8, h8, h⟩ := hb_bind h
      obtain ⟨h8, nf8, hb8⟩ := hb_on_at h8
      refine hs_callVv (μ' := mX7_expect) (mc := 0) (ms := 0) (rc := 0) (rs := 0) (As := [.int (41 : Int32)]) (rest := []) (ci := 7) dX3_unit_37 lmX3_57 okX7_expect rfl (by omega) rfl (Nat.le_of_ble_eq_true rfl) rfl hb8 (c_X7_expect h8) ?_
      refine hs_goto (tgt := 99) dX3_unit_40 (by decide) ?_
      refine hs_sub (lv' := [(0, .ref x0), (2, .int r1.1), (3, .long r6.1)]) [2, 1, 0] rfl ?_
      exact c_X3_unit_b99 kF hkF h
def mX3_part : hb_Y := (yX3_part, cX3_part, 5, (some .long), [], false)
theorem okX3_part : hb_okV mX3_part 1 := ⟨⟨hb_w 8 (by decide +kernel) (by decide +kernel), hb_w 485 (by decide +kernel) (by decide +kernel), ⟨by decide +kernel, by decide +kernel, by decide +kernel⟩, by decide⟩, hb_w 484 (by decide +kernel) (by decide +kernel), hb_wp (q := (yX3_part, 3)) 11 (by decide +kernel) (by decide +kernel)⟩
set_option maxHeartbeats 4000000 in
set_option maxRecDepth 20000 in
theorem c_X3_part_b9 {G : hb_G} {l : Launch} {z : Bool} {dF : Nat} (kF : Nat → Int32 → hb_M → Option (Int64 × hb_M)) (hkF : ∀ (x0 : Nat) (x1 : Int32) (σ : hb_M) (r : Int64 × hb_M), kF x0 x1 σ = some r → hb_Call G l z dF 0 0 mX3_filter [.ref x0, .int x1] σ (.inl (some (.long r.1)), r.2)) : ∀ (n : Nat) (x0 : Nat) (x1 : Int32) (x2 : Int64) (x4 : Int32) (σ : hb_M) (r : (Int64 × hb_M)), f_X3_part_b9 kF n x0 x1 x2 x4 σ = some r → hb_T G l z mX3_part (dF + 7) 0 0 9 [(0, .ref x0), (1, .int x1), (2, .long x2), (4, .int x4)] [] σ (.inl (some (.long r.1)), r.2) := by
  intro n
  induction n with
  | zero =>
    intro x0 x1 x2 x4 σ r h
    cases h
  | succ n ih =>
    intro x0 x1 x2 x4 σ r h
    rw [f_X3_part_b9] at h
    refine hs_iload dX3_part_9 3 rfl ?_
    refine hs_bipush (v := (100 : Int32)) dX3_part_11 (by decide) ?_
    refine hs_icmp_ge (tgt := 42) dX3_part_13 (by decide) (fun hc1 => ?_) (fun hc1 => ?_)
    · rw [if_pos hc1] at h
      refine hs_lload_n dX3_part_42 2 rfl ?_
      obtain rfl := Option.some.inj h
      exact hs_lreturn dX3_part_43 rfl (fun _ => rfl)
    · rw [if_neg hc1] at h
      refine hs_aload_n dX3_part_16 0 rfl ?_
      obtain ⟨r2, h2, h⟩ := hb_bind h
      refine hs_getR dX3_part_17 lkX3_19 rfl h2 ?_
      refine hs_bipush (v := (38 : Int32)) dX3_part_20 (by decide) ?_
      obtain ⟨r3, h3, h⟩ := hb_bind h
      obtain ⟨h3, nf3, hb3⟩ := hb_on_at h3
      refine hs_callVi (μ' := mX7_skip) (mc := 0) (ms := 0) (rc := 0) (rs := 0) (As := [.int (38 : Int32)]) (rest := []) (ci := 7) dX3_part_22 lmX3_47 okX7_skip rfl (by omega) rfl (Nat.le_of_ble_eq_true rfl) rfl hb3 (c_X7_skip h3) ?_
      refine hs_if_eq (tgt := 42) dX3_part_25 (by decide) (fun hc4 => ?_) (fun hc4 => ?_)
      · rw [if_pos hc4] at h
        refine hs_lload_n dX3_part_42 2 rfl ?_
        obtain rfl := Option.some.inj h
        exact hs_lreturn dX3_part_43 rfl (fun _ => rfl)
      · rw [if_neg hc4] at h
        refine hs_lload_n dX3_part_28 2 rfl ?_
        refine hs_aload_n dX3_part_29 0 rfl ?_
        refine hs_iload_n dX3_part_30 1 rfl ?_
        obtain ⟨r5, h5, h⟩ := hb_bind h
        obtain ⟨h5, nf5, hb5⟩ := hb_on_at h5
        refine hs_callVl (μ' := mX3_unit) (mc := 0) (ms := 0) (rc := 0) (rs := 0) (As := [.int x1]) (rest := [.long x2]) (ci := 3) dX3_part_31 lmX3_51 okX3_unit rfl (by omega) rfl (Nat.le_of_ble_eq_true rfl) rfl hb5 (c_X3_unit kF hkF h5) ?_
        refine hs_land dX3_part_34 ?_
        refine hs_lstore_n (lv' := [(2, .long (x2 &&& r5.1)), (0, .ref x0), (1, .int x1), (4, .int x4)]) dX3_part_35 (by decide) rfl ?_
        refine hs_iinc2 (k := (1 : Int32)) (lv' := [(4, .int (x4 + (1 : Int32))), (2, .long (x2 &&& r5.1)), (0, .ref x0), (1, .int x1)]) dX3_part_36 (by decide) 3 rfl (by decide) rfl ?_
        refine hs_goto (tgt := 9) dX3_part_39 (by decide) ?_
        refine hs_sub (lv' := [(0, .ref x0), (1, .int x1), (2, .long (x2 &&& r5.1)), (4, .int (x4 + (1 : Int32)))]) [2, 3, 1, 0] rfl ?_
        exact ih _ _ _ _ _ _ h
set_option maxHeartbeats 4000000 in
set_option maxRecDepth 20000 in
theorem c_X3_part {G : hb_G} {l : Launch} {z : Bool} {dF : Nat} (kF : Nat → Int32 → hb_M → Option (Int64 × hb_M)) (hkF : ∀ (x0 : Nat) (x1 : Int32) (σ : hb_M) (r : Int64 × hb_M), kF x0 x1 σ = some r → hb_Call G l z dF 0 0 mX3_filter [.ref x0, .int x1] σ (.inl (some (.long r.1)), r.2)) {x0 : Nat} {x1 : Int32} {σ : hb_M} {r : (Int64 × hb_M)} (h : f_X3_part kF x0 x1 σ = some r) : hb_Call G l z (dF + 7) 0 0 mX3_part [.ref x0, .int x1] σ (.inl (some (.long r.1)), r.2) := by
  refine hb_met (by decide) (Nat.le_of_ble_eq_true rfl) ?_
  unfold f_X3_part at h
  refine hs_aload_n dX3_part_0 0 rfl ?_
  refine hs_iload_n dX3_part_1 1 rfl ?_
  obtain ⟨r1, h1, h⟩ := hb_bind h
  obtain ⟨h1, nf1, hb1⟩ := hb_on_at h1
  refine hs_callVl (μ' := mX3_unit) (mc := 0) (ms := 0) (rc := 0) (rs := 0) (As := [.int x1]) (rest := []) (ci := 3) dX3_part_2 lmX3_51 okX3_unit rfl (by omega) rfl (Nat.le_of_ble_eq_true rfl) rfl hb1 (c_X3_unit kF hkF h1) ?_
  refine hs_lstore_n (lv' := [(2, .long r1.1), (0, .ref x0), (1, .int x1)]) dX3_part_5 (by decide) rfl ?_
  refine hs_iconst (v := (1 : Int32)) dX3_part_6 (by decide) ?_
  refine hs_istore (lv' := [(4, .int (1 : Int32)), (2, .long r1.1), (0, .ref x0), (1, .int x1)]) dX3_part_7 (by decide) rfl ?_
  refine hs_sub (lv' := [(0, .ref x0), (1, .int x1), (2, .long r1.1), (4, .int (1 : Int32))]) [2, 3, 1, 0] rfl ?_
  exact c_X3_part_b9 kF hkF hb_FU _ _ _ _ _ _ h
set_option maxHeartbeats 4000000 in
set_option maxRecDepth 20000 in
theorem c_X3_filter_b9 {G : hb_G} {l : Launch} {z : Bool} {dF : Nat} (kF : Nat → Int32 → hb_M → Option (Int64 × hb_M)) (hkF : ∀ (x0 : Nat) (x1 : Int32) (σ : hb_M) (r : Int64 × hb_M), kF x0 x1 σ = some r → hb_Call G l z dF 0 0 mX3_filter [.ref x0, .int x1] σ (.inl (some (.long r.1)), r.2)) : ∀ (n : Nat) (x0 : Nat) (x1 : Int32) (x2 : Int64) (x4 : Int32) (σ : hb_M) (r : (Int64 × hb_M)), f_X3_filter_b9 kF n x0 x1 x2 x4 σ = some r → hb_T G l z mX3_filter (dF + 8) 0 0 9 [(0, .ref x0), (1, .int x1), (2, .long x2), (4, .int x4)] [] σ (.inl (some (.long r.1)), r.2) := by
  intro n
  induction n with
  | zero =>
    intro x0 x1 x2 x4 σ r h
    cases h
  | succ n ih =>
    intro x0 x1 x2 x4 σ r h
    rw [f_X3_filter_b9] at h
    refine hs_iload dX3_filter_9 3 rfl ?_
    refine hs_bipush (v := (100 : Int32)) dX3_filter_11 (by decide) ?_
    refine hs_icmp_ge (tgt := 42) dX3_filter_13 (by decide) (fun hc1 => ?_) (fun hc1 => ?_)
    · rw [if_pos hc1] at h
      refine hs_lload_n dX3_filter_42 2 rfl ?_
      obtain rfl := Option.some.inj h
      exact hs_lreturn dX3_filter_43 rfl (fun _ => rfl)
    · rw [if_neg hc1] at h
      refine hs_aload_n dX3_filter_16 0 rfl ?_
      obtain ⟨r2, h2, h⟩ := hb_bind h
      refine hs_getR dX3_filter_17 lkX3_19 rfl h2 ?_
      refine hs_bipush (v := (124 : Int32)) dX3_filter_20 (by decide) ?_
      obtain ⟨r3, h3, h⟩ := hb_bind h
      obtain ⟨h3, nf3, hb3⟩ := hb_on_at h3
      refine hs_callVi (μ' := mX7_skip) (mc := 0) (ms := 0) (rc := 0) (rs := 0) (As := [.int (124 : Int32)]) (rest := []) (ci := 7) dX3_filter_22 lmX3_47 okX7_skip rfl (by omega) rfl (Nat.le_of_ble_eq_true rfl) rfl hb3 (c_X7_skip h3) ?_
      refine hs_if_eq (tgt := 42) dX3_filter_25 (by decide) (fun hc4 => ?_) (fun hc4 => ?_)
      · rw [if_pos hc4] at h
        refine hs_lload_n dX3_filter_42 2 rfl ?_
        obtain rfl := Option.some.inj h
        exact hs_lreturn dX3_filter_43 rfl (fun _ => rfl)
      · rw [if_neg hc4] at h
        refine hs_lload_n dX3_filter_28 2 rfl ?_
        refine hs_aload_n dX3_filter_29 0 rfl ?_
        refine hs_iload_n dX3_filter_30 1 rfl ?_
        obtain ⟨r5, h5, h⟩ := hb_bind h
        obtain ⟨h5, nf5, hb5⟩ := hb_on_at h5
        refine hs_callVl (μ' := mX3_part) (mc := 0) (ms := 0) (rc := 0) (rs := 0) (As := [.int x1]) (rest := [.long x2]) (ci := 3) dX3_filter_31 lmX3_44 okX3_part rfl (by omega) rfl (Nat.le_of_ble_eq_true rfl) rfl hb5 (c_X3_part kF hkF h5) ?_
        refine hs_lor dX3_filter_34 ?_
        refine hs_lstore_n (lv' := [(2, .long (x2 ||| r5.1)), (0, .ref x0), (1, .int x1), (4, .int x4)]) dX3_filter_35 (by decide) rfl ?_
        refine hs_iinc2 (k := (1 : Int32)) (lv' := [(4, .int (x4 + (1 : Int32))), (2, .long (x2 ||| r5.1)), (0, .ref x0), (1, .int x1)]) dX3_filter_36 (by decide) 3 rfl (by decide) rfl ?_
        refine hs_goto (tgt := 9) dX3_filter_39 (by decide) ?_
        refine hs_sub (lv' := [(0, .ref x0), (1, .int x1), (2, .long (x2 ||| r5.1)), (4, .int (x4 + (1 : Int32)))]) [2, 3, 1, 0] rfl ?_
        exact ih _ _ _ _ _ _ h
set_option maxHeartbeats 4000000 in
set_option maxRecDepth 20000 in
theorem c_X3_filter {G : hb_G} {l : Launch} {z : Bool} {dF : Nat} (kF : Nat → Int32 → hb_M → Option (Int64 × hb_M)) (hkF : ∀ (x0 : Nat) (x1 : Int32) (σ : hb_M) (r : Int64 × hb_M), kF x0 x1 σ = some r → hb_Call G l z dF 0 0 mX3_filter [.ref x0, .int x1] σ (.inl (some (.long r.1)), r.2)) {x0 : Nat} {x1 : Int32} {σ : hb_M} {r : (Int64 × hb_M)} (h : f_X3_filter kF x0 x1 σ = some r) : hb_Call G l z (dF + 8) 0 0 mX3_filter [.ref x0, .int x1] σ (.inl (some (.long r.1)), r.2) := by
  refine hb_met (by decide) (Nat.le_of_ble_eq_true rfl) ?_
  unfold f_X3_filter at h
  refine hs_aload_n dX3_filter_0 0 rfl ?_
  refine hs_iload_n dX3_filter_1 1 rfl ?_
  obtain ⟨r1, h1, h⟩ := hb_bind h
  obtain ⟨h1, nf1, hb1⟩ := hb_on_at h1
  refine hs_callVl (μ' := mX3_part) (mc := 0) (ms := 0) (rc := 0) (rs := 0) (As := [.int x1]) (rest := []) (ci := 3) dX3_filter_2 lmX3_44 okX3_part rfl (by omega) rfl (Nat.le_of_ble_eq_true rfl) rfl hb1 (c_X3_part kF hkF h1) ?_
  refine hs_lstore_n (lv' := [(2, .long r1.1), (0, .ref x0), (1, .int x1)]) dX3_filter_5 (by decide) rfl ?_
  refine hs_iconst (v := (1 : Int32)) dX3_filter_6 (by decide) ?_
  refine hs_istore (lv' := [(4, .int (1 : Int32)), (2, .long r1.1), (0, .ref x0), (1, .int x1)]) dX3_filter_7 (by decide) rfl ?_
  refine hs_sub (lv' := [(0, .ref x0), (1, .int x1), (2, .long r1.1), (4, .int (1 : Int32))]) [2, 3, 1, 0] rfl ?_
  exact c_X3_filter_b9 kF hkF hb_FU _ _ _ _ _ _ h
theorem c_X3_filterN {G : hb_G} {l : Launch} {z : Bool} : ∀ (n : Nat) (x0 : Nat) (x1 : Int32) (σ : hb_M) (r : Int64 × hb_M), f_X3_filterN n x0 x1 σ = some r → hb_Call G l z (8 * n) 0 0 mX3_filter [.ref x0, .int x1] σ (.inl (some (.long r.1)), r.2) := by
  intro n
  induction n with
  | zero =>
    intro x0 x1 σ r h
    cases h
  | succ n ih =>
    intro x0 x1 σ r h
    rw [f_X3_filterN] at h
    exact c_X3_filter (dF := 8 * n) _ ih h
def mX3_apply : hb_Y := (yX3_apply, cX3_apply, 3, (some .long), [], false)
set_option maxHeartbeats 4000000 in
set_option maxRecDepth 20000 in
theorem c_X3_apply {G : hb_G} {l : Launch} {z : Bool} {x0 : Nat} {σ : hb_M} {r : (Int64 × hb_M)} (h : f_X3_apply x0 σ = some r) : hb_Call G l z 81 0 0 mX3_apply [.ref x0] σ (.inl (some (.long r.1)), r.2) := by
  refine hb_met (by decide) (Nat.le_of_ble_eq_true rfl) ?_
  unfold f_X3_apply at h
  refine hs_aload_n dX3_apply_0 0 rfl ?_
  obtain ⟨r1, h1, h⟩ := hb_bind h
  refine hs_getR dX3_apply_1 lkX3_15 rfl h1 ?_
  obtain ⟨r2, h2, h⟩ := hb_bind h
  obtain ⟨h2, nf2, hb2⟩ := hb_on_at h2
  refine hs_callVv (μ' := mX0_refresh) (mc := 0) (ms := 0) (rc := 0) (rs := 0) (As := []) (rest := []) (ci := 0) dX3_apply_4 lmX3_23 okX0_refresh rfl (by decide) rfl (Nat.le_of_ble_eq_true rfl) rfl hb2 (c_X0_refresh h2) ?_
  refine hs_aload_n dX3_apply_7 0 rfl ?_
  obtain ⟨r3, h3, h⟩ := hb_bind h
  refine hs_getR dX3_apply_8 lkX3_19 rfl h3 ?_
  obtain ⟨r4, h4, h⟩ := hb_bind h
  obtain ⟨h4, nf4, hb4⟩ := hb_on_at h4
  refine hs_callVv (μ' := mX7_begin) (mc := 0) (ms := 0) (rc := 0) (rs := 0) (As := []) (rest := []) (ci := 7) dX3_apply_11 lmX3_28 okX7_begin rfl (by decide) rfl (Nat.le_of_ble_eq_true rfl) rfl hb4 (c_X7_begin h4) ?_
  refine hs_aload_n dX3_apply_14 0 rfl ?_
  refine hs_iconst (v := (0 : Int32)) dX3_apply_15 (by decide) ?_
  obtain ⟨r5, h5, h⟩ := hb_bind h
  obtain ⟨h5, nf5, hb5⟩ := hb_on_at h5
  refine hs_callVl (μ' := mX3_filter) (mc := 0) (ms := 0) (rc := 0) (rs := 0) (As := [.int (0 : Int32)]) (rest := []) (ci := 3) dX3_apply_16 lmX3_33 okX3_filter rfl (by decide) rfl (Nat.le_of_ble_eq_true rfl) rfl hb5 (c_X3_filterN 10 _ _ _ _ h5) ?_
  refine hs_lstore_n (lv' := [(1, .long r5.1), (0, .ref x0)]) dX3_apply_19 (by decide) rfl ?_
  refine hs_aload_n dX3_apply_20 1 rfl ?_
  obtain ⟨r6, h6, h⟩ := hb_bind h
  refine hs_getR dX3_apply_21 lkX3_19 rfl h6 ?_
  obtain ⟨r7, h7, h⟩ := hb_bind h
  obtain ⟨h7, nf7, hb7⟩ := hb_on_at h7
  refine hs_callVi (μ' := mX7_atEnd) (mc := 0) (ms := 0) (rc := 0) (rs := 0) (As := []) (rest := []) (ci := 7) dX3_apply_24 lmX3_37 okX7_atEnd rfl (by decide) rfl (Nat.le_of_ble_eq_true rfl) rfl hb7 (c_X7_atEnd h7) ?_
  refine hs_if_ne (tgt := 37) dX3_apply_27 (by decide) (fun hc8 => ?_) (fun hc8 => ?_)
  · rw [if_neg hc8] at h
    refine hs_lload_n dX3_apply_37 0 rfl ?_
    obtain rfl := Option.some.inj h
    exact hs_lreturn dX3_apply_38 rfl (fun _ => rfl)
  · rw [if_pos hc8] at h
    refine hs_aload_n dX3_apply_30 1 rfl ?_
    obtain ⟨r9, h9, h⟩ := hb_bind h
    refine hs_getR dX3_apply_31 lkX3_19 rfl h9 ?_
    obtain ⟨r10, h10, h⟩ := hb_bind h
    obtain ⟨h10, nf10, hb10⟩ := hb_on_at h10
    refine hs_callVv (μ' := mX7_fail) (mc := 0) (ms := 0) (rc := 0) (rs := 0) (As := []) (rest := []) (ci := 7) dX3_apply_34 lmX3_41 okX7_fail rfl (by decide) rfl (Nat.le_of_ble_eq_true rfl) rfl hb10 (c_X7_fail h10) ?_
    refine hs_lload_n dX3_apply_37 0 rfl ?_
    obtain rfl := Option.some.inj h
    exact hs_lreturn dX3_apply_38 rfl (fun _ => rfl)
