def mJ7_fill_53178 : hb_Y := (yJ7_fill_53178, cJ7_fill_53178, 4, none, [], false)
theorem okJ7_fill_53178 : hb_okS mJ7_fill_53178 2 := ⟨⟨hb_w 3 (by decide +kernel) (by decide +kernel), hb_w 45 (by decide +kernel) (by decide +kernel), ⟨by decide +kernel, by decide +kernel, by decide +kernel⟩, by decide⟩, hb_w 44 (by decide +kernel) (by decide +kernel)⟩
set_option maxHeartbeats 4000000 in
set_option maxRecDepth 20000 in
theorem c_J7_fill_53178_b5 {G : hb_G} {l : Launch} {z : Bool} : ∀ (n : Nat) (x0 : Nat) (x1 : Int32) (x2 : Int32) (x3 : Int32) (σ : hb_M) (r : hb_M), f_J7_fill_53178_b5 n x0 x1 x2 x3 σ = some r → hb_T G l z mJ7_fill_53178 0 0 0 5 [(0, .ref x0), (1, .int x1), (2, .int x2), (3, .int x3)] [] σ (.inl none, r) := by
  intro n
  induction n with
  | zero =>
    intro x0 x1 x2 x3 σ r h
    cases h
  | succ n ih =>
    intro x0 x1 x2 x3 σ r h
    rw [f_J7_fill_53178_b5] at h
    refine hs_iload_n dJ7_fill_53178_5 2 rfl ?_
    refine hs_iload_n dJ7_fill_53178_6 3 rfl ?_
    refine hs_icmp_ge (tgt := 20) dJ7_fill_53178_7 (by decide) (fun hc1 => ?_) (fun hc1 => ?_)
    · rw [if_pos hc1] at h
      obtain rfl := Option.some.inj h
      exact hs_return dJ7_fill_53178_20 rfl (fun _ => rfl)
    · rw [if_neg hc1] at h
      refine hs_aload_n dJ7_fill_53178_10 0 rfl ?_
      refine hs_iload_n dJ7_fill_53178_11 2 rfl ?_
      refine hs_iload_n dJ7_fill_53178_12 1 rfl ?_
      obtain ⟨r2, h2, h⟩ := hb_bind h
      refine hs_iast dJ7_fill_53178_13 h2 ?_
      refine hs_iinc2 (k := (1 : Int32)) (lv' := [(2, .int (x2 + (1 : Int32))), (0, .ref x0), (1, .int x1), (3, .int x3)]) dJ7_fill_53178_14 (by decide) 2 rfl (by decide) rfl ?_
      refine hs_goto (tgt := 5) dJ7_fill_53178_17 (by decide) ?_
      refine hs_sub (lv' := [(0, .ref x0), (1, .int x1), (2, .int (x2 + (1 : Int32))), (3, .int x3)]) [1, 2, 0, 3] rfl ?_
      exact ih _ _ _ _ _ _ h
set_option maxHeartbeats 4000000 in
set_option maxRecDepth 20000 in
theorem c_J7_fill_53178 {G : hb_G} {l : Launch} {z : Bool} {x0 : Nat} {x1 : Int32} {σ : hb_M} {r : hb_M} (h : f_J7_fill_53178 x0 x1 σ = some r) : hb_Call G l z 0 0 0 mJ7_fill_53178 [.ref x0, .int x1] σ (.inl none, r) := by
  refine hb_met (by decide) (Nat.le_of_ble_eq_true rfl) ?_
  unfold f_J7_fill_53178 at h
  refine hs_iconst (v := (0 : Int32)) dJ7_fill_53178_0 (by decide) ?_
  refine hs_istore_n (lv' := [(2, .int (0 : Int32)), (0, .ref x0), (1, .int x1)]) dJ7_fill_53178_1 (by decide) rfl ?_
  refine hs_aload_n dJ7_fill_53178_2 1 rfl ?_
  obtain ⟨r1, h1, h⟩ := hb_bind h
  refine hs_alen dJ7_fill_53178_3 h1 ?_
  refine hs_istore_n (lv' := [(3, .int r1), (2, .int (0 : Int32)), (0, .ref x0), (1, .int x1)]) dJ7_fill_53178_4 (by decide) rfl ?_
  refine hs_sub (lv' := [(0, .ref x0), (1, .int x1), (2, .int (0 : Int32)), (3, .int r1)]) [2, 3, 1, 0] rfl ?_
  exact c_J7_fill_53178_b5 hb_FU _ _ _ _ _ _ h
def mX4_init : hb_Y := (yX4_init, cX4_init, 1, none, [], false)
set_option maxHeartbeats 4000000 in
set_option maxRecDepth 20000 in
theorem c_X4_init {G : hb_G} {l : Launch} {x0 : Nat} {σ : hb_M} {r : hb_M} (h : f_X4_init x0 σ = some r) : hb_Call G l false 1 10 590 mX4_init [.ref x0] σ (.inl none, r) := by
  refine hb_met (by decide) (Nat.le_of_ble_eq_true rfl) ?_
  unfold f_X4_init at h
  refine hs_aload_n dX4_init_0 0 rfl ?_
  refine hs_objInit dX4_init_1 wd_42 hb_oi1 hb_oi2 (Nat.le_of_ble_eq_true rfl) ?_
  refine hs_aload_n dX4_init_4 0 rfl ?_
  refine hs_bipush (v := (10 : Int32)) dX4_init_5 (by decide) ?_
  obtain ⟨r1, h1, h⟩ := hb_bind h
  refine hs_newI (rc := 9) (rs := 580) (k := 10) dX4_init_7 wd_96 h1 (by decide) ?_
  obtain ⟨r2, h2, h⟩ := hb_bind h
  refine hs_putR dX4_init_9 lpX4_init_9 rfl h2 ?_
  refine hs_aload_n dX4_init_12 0 rfl ?_
  refine hs_bipush (v := (10 : Int32)) dX4_init_13 (by decide) ?_
  obtain ⟨r3, h3, h⟩ := hb_bind h
  refine hs_newI (rc := 8) (rs := 570) (k := 10) dX4_init_15 wd_96 h3 (by decide) ?_
  obtain ⟨r4, h4, h⟩ := hb_bind h
  refine hs_putR dX4_init_17 lpX4_init_15 rfl h4 ?_
  refine hs_aload_n dX4_init_20 0 rfl ?_
  refine hs_bipush (v := (10 : Int32)) dX4_init_21 (by decide) ?_
  obtain ⟨r5, h5, h⟩ := hb_bind h
  refine hs_newI (rc := 7) (rs := 560) (k := 10) dX4_init_23 wd_96 h5 (by decide) ?_
  obtain ⟨r6, h6, h⟩ := hb_bind h
  refine hs_putR dX4_init_25 lpX4_init_18 rfl h6 ?_
  refine hs_aload_n dX4_init_28 0 rfl ?_
  refine hs_bipush (v := (40 : Int32)) dX4_init_29 (by decide) ?_
  obtain ⟨r7, h7, h⟩ := hb_bind h
  refine hs_newI (rc := 6) (rs := 520) (k := 40) dX4_init_31 wd_96 h7 (by decide) ?_
  obtain ⟨r8, h8, h⟩ := hb_bind h
  refine hs_putR dX4_init_33 lpX4_init_21 rfl h8 ?_
  refine hs_aload_n dX4_init_36 0 rfl ?_
  refine hs_bipush (v := (40 : Int32)) dX4_init_37 (by decide) ?_
  obtain ⟨r9, h9, h⟩ := hb_bind h
  refine hs_newI (rc := 5) (rs := 480) (k := 40) dX4_init_39 wd_96 h9 (by decide) ?_
  obtain ⟨r10, h10, h⟩ := hb_bind h
  refine hs_putR dX4_init_41 lpX4_init_24 rfl h10 ?_
  refine hs_aload_n dX4_init_44 0 rfl ?_
  refine hs_bipush (v := (40 : Int32)) dX4_init_45 (by decide) ?_
  obtain ⟨r11, h11, h⟩ := hb_bind h
  refine hs_newI (rc := 4) (rs := 440) (k := 40) dX4_init_47 wd_96 h11 (by decide) ?_
  obtain ⟨r12, h12, h⟩ := hb_bind h
  refine hs_putR dX4_init_49 lpX4_init_27 rfl h12 ?_
  refine hs_aload_n dX4_init_52 0 rfl ?_
  refine hs_bipush (v := (40 : Int32)) dX4_init_53 (by decide) ?_
  obtain ⟨r13, h13, h⟩ := hb_bind h
  refine hs_newI (rc := 3) (rs := 400) (k := 40) dX4_init_55 wd_96 h13 (by decide) ?_
  obtain ⟨r14, h14, h⟩ := hb_bind h
  refine hs_putR dX4_init_57 lpX4_init_30 rfl h14 ?_
  refine hs_aload_n dX4_init_60 0 rfl ?_
  refine hs_bipush (v := (40 : Int32)) dX4_init_61 (by decide) ?_
  obtain ⟨r15, h15, h⟩ := hb_bind h
  refine hs_newI (rc := 2) (rs := 360) (k := 40) dX4_init_63 wd_96 h15 (by decide) ?_
  obtain ⟨r16, h16, h⟩ := hb_bind h
  refine hs_putR dX4_init_65 lpX4_init_33 rfl h16 ?_
  refine hs_aload_n dX4_init_68 0 rfl ?_
  refine hs_bipush (v := (40 : Int32)) dX4_init_69 (by decide) ?_
  obtain ⟨r17, h17, h⟩ := hb_bind h
  refine hs_newI (rc := 1) (rs := 320) (k := 40) dX4_init_71 wd_96 h17 (by decide) ?_
  obtain ⟨r18, h18, h⟩ := hb_bind h
  refine hs_putR dX4_init_73 lpX4_init_36 rfl h18 ?_
  refine hs_aload_n dX4_init_76 0 rfl ?_
  refine hs_sipush (v := (320 : Int32)) dX4_init_77 (by decide) ?_
  obtain ⟨r19, h19, h⟩ := hb_bind h
  refine hs_newI (rc := 0) (rs := 0) (k := 320) dX4_init_80 wd_96 h19 (by decide) ?_
  obtain ⟨r20, h20, h⟩ := hb_bind h
  refine hs_putR dX4_init_82 lpX4_init_39 rfl h20 ?_
  refine hs_aload_n dX4_init_85 0 rfl ?_
  refine hs_iconst (v := (1 : Int32)) dX4_init_86 (by decide) ?_
  obtain ⟨r21, h21, h⟩ := hb_bind h
  refine hs_putI dX4_init_87 lpX4_init_42 rfl h21 ?_
  refine hs_aload_n dX4_init_90 0 rfl ?_
  obtain ⟨r22, h22, h⟩ := hb_bind h
  refine hs_getR dX4_init_91 lkX4_9 rfl h22 ?_
  refine hs_iconst (v := (0 : Int32)) dX4_init_94 (by decide) ?_
  refine hs_iconst (v := (-1 : Int32)) dX4_init_95 (by decide) ?_
  obtain ⟨r23, h23, h⟩ := hb_bind h
  refine hs_iast dX4_init_96 h23 ?_
  refine hs_aload_n dX4_init_97 0 rfl ?_
  obtain ⟨r24, h24, h⟩ := hb_bind h
  refine hs_getR dX4_init_98 lkX4_21 rfl h24 ?_
  refine hs_iconst (v := (-1 : Int32)) dX4_init_101 (by decide) ?_
  obtain ⟨r25, h25, h⟩ := hb_bind h
  refine hs_callSv (μ' := mJ7_fill_53178) (mc := 0) (ms := 0) (rc := 0) (rs := 0) (As := [.ref r24, .int (-1 : Int32)]) (rest := []) dX4_init_102 lmX4_46 okJ7_fill_53178 rfl (by decide) rfl (Nat.le_of_ble_eq_true rfl) (c_J7_fill_53178 h25) ?_
  refine hs_aload_n dX4_init_105 0 rfl ?_
  obtain ⟨r26, h26, h⟩ := hb_bind h
  refine hs_getR dX4_init_106 lkX4_39 rfl h26 ?_
  refine hs_iconst (v := (-1 : Int32)) dX4_init_109 (by decide) ?_
  obtain ⟨r27, h27, h⟩ := hb_bind h
  refine hs_callSv (μ' := mJ7_fill_53178) (mc := 0) (ms := 0) (rc := 0) (rs := 0) (As := [.ref r26, .int (-1 : Int32)]) (rest := []) dX4_init_110 lmX4_46 okJ7_fill_53178 rfl (by decide) rfl (Nat.le_of_ble_eq_true rfl) (c_J7_fill_53178 h27) ?_
  refine hs_aload_n dX4_init_113 0 rfl ?_
  refine hs_iconst (v := (1 : Int32)) dX4_init_114 (by decide) ?_
  obtain ⟨r28, h28, h⟩ := hb_bind h
  refine hs_putI dX4_init_115 lpX4_init_52 rfl h28 ?_
  obtain rfl := Option.some.inj h
  exact hs_return dX4_init_118 rfl (fun _ => rfl)
def mX4_copyFrom : hb_Y := (yX4_copyFrom, cX4_copyFrom, 2, none, [], false)
set_option maxHeartbeats 4000000 in
set_option maxRecDepth 20000 in
theorem c_X4_copyFrom {G : hb_G} {l : Launch} {z : Bool} {x0 : Nat} {x1 : Nat} {σ : hb_M} {r : hb_M} (h : f_X4_copyFrom x0 x1 σ = some r) : hb_Call G l z 0 0 0 mX4_copyFrom [.ref x0, .ref x1] σ (.inl none, r) := by
  refine hb_met (by decide) (Nat.le_of_ble_eq_true rfl) ?_
  unfold f_X4_copyFrom at h
  refine hs_aload_n dX4_copyFrom_0 0 rfl ?_
  refine hs_aload_n dX4_copyFrom_1 1 rfl ?_
  obtain ⟨r1, h1, h⟩ := hb_bind h
  refine hs_getI dX4_copyFrom_2 lkX4_42 rfl h1 ?_
  obtain ⟨r2, h2, h⟩ := hb_bind h
  refine hs_putI dX4_copyFrom_5 lpX4_copyFrom_42 rfl h2 ?_
  refine hs_aload_n dX4_copyFrom_8 1 rfl ?_
  obtain ⟨r3, h3, h⟩ := hb_bind h
  refine hs_getR dX4_copyFrom_9 lkX4_9 rfl h3 ?_
  refine hs_iconst (v := (0 : Int32)) dX4_copyFrom_12 (by decide) ?_
  refine hs_aload_n dX4_copyFrom_13 0 rfl ?_
  obtain ⟨r4, h4, h⟩ := hb_bind h
  refine hs_getR dX4_copyFrom_14 lkX4_9 rfl h4 ?_
  refine hs_iconst (v := (0 : Int32)) dX4_copyFrom_17 (by decide) ?_
  refine hs_bipush (v := (10 : Int32)) dX4_copyFrom_18 (by decide) ?_
  obtain ⟨r5, h5, h⟩ := hb_bind h
  refine hs_copy dX4_copyFrom_20 wd_332 hb_ac1 hb_ac2 hb_ac3 (Nat.le_of_ble_eq_true rfl) h5 ?_
  refine hs_aload_n dX4_copyFrom_23 1 rfl ?_
  obtain ⟨r6, h6, h⟩ := hb_bind h
  refine hs_getR dX4_copyFrom_24 lkX4_15 rfl h6 ?_
  refine hs_iconst (v := (0 : Int32)) dX4_copyFrom_27 (by decide) ?_
  refine hs_aload_n dX4_copyFrom_28 0 rfl ?_
  obtain ⟨r7, h7, h⟩ := hb_bind h
  refine hs_getR dX4_copyFrom_29 lkX4_15 rfl h7 ?_
  refine hs_iconst (v := (0 : Int32)) dX4_copyFrom_32 (by decide) ?_
  refine hs_bipush (v := (10 : Int32)) dX4_copyFrom_33 (by decide) ?_
  obtain ⟨r8, h8, h⟩ := hb_bind h
  refine hs_copy dX4_copyFrom_35 wd_332 hb_ac1 hb_ac2 hb_ac3 (Nat.le_of_ble_eq_true rfl) h8 ?_
  refine hs_aload_n dX4_copyFrom_38 1 rfl ?_
  obtain ⟨r9, h9, h⟩ := hb_bind h
  refine hs_getR dX4_copyFrom_39 lkX4_18 rfl h9 ?_
  refine hs_iconst (v := (0 : Int32)) dX4_copyFrom_42 (by decide) ?_
  refine hs_aload_n dX4_copyFrom_43 0 rfl ?_
  obtain ⟨r10, h10, h⟩ := hb_bind h
  refine hs_getR dX4_copyFrom_44 lkX4_18 rfl h10 ?_
  refine hs_iconst (v := (0 : Int32)) dX4_copyFrom_47 (by decide) ?_
  refine hs_bipush (v := (10 : Int32)) dX4_copyFrom_48 (by decide) ?_
  obtain ⟨r11, h11, h⟩ := hb_bind h
  refine hs_copy dX4_copyFrom_50 wd_332 hb_ac1 hb_ac2 hb_ac3 (Nat.le_of_ble_eq_true rfl) h11 ?_
  refine hs_aload_n dX4_copyFrom_53 1 rfl ?_
  obtain ⟨r12, h12, h⟩ := hb_bind h
  refine hs_getR dX4_copyFrom_54 lkX4_21 rfl h12 ?_
  refine hs_iconst (v := (0 : Int32)) dX4_copyFrom_57 (by decide) ?_
  refine hs_aload_n dX4_copyFrom_58 0 rfl ?_
  obtain ⟨r13, h13, h⟩ := hb_bind h
  refine hs_getR dX4_copyFrom_59 lkX4_21 rfl h13 ?_
  refine hs_iconst (v := (0 : Int32)) dX4_copyFrom_62 (by decide) ?_
  refine hs_bipush (v := (40 : Int32)) dX4_copyFrom_63 (by decide) ?_
  obtain ⟨r14, h14, h⟩ := hb_bind h
  refine hs_copy dX4_copyFrom_65 wd_332 hb_ac1 hb_ac2 hb_ac3 (Nat.le_of_ble_eq_true rfl) h14 ?_
  refine hs_aload_n dX4_copyFrom_68 1 rfl ?_
  obtain ⟨r15, h15, h⟩ := hb_bind h
  refine hs_getR dX4_copyFrom_69 lkX4_24 rfl h15 ?_
  refine hs_iconst (v := (0 : Int32)) dX4_copyFrom_72 (by decide) ?_
  refine hs_aload_n dX4_copyFrom_73 0 rfl ?_
  obtain ⟨r16, h16, h⟩ := hb_bind h
  refine hs_getR dX4_copyFrom_74 lkX4_24 rfl h16 ?_
  refine hs_iconst (v := (0 : Int32)) dX4_copyFrom_77 (by decide) ?_
  refine hs_bipush (v := (40 : Int32)) dX4_copyFrom_78 (by decide) ?_
  obtain ⟨r17, h17, h⟩ := hb_bind h
  refine hs_copy dX4_copyFrom_80 wd_332 hb_ac1 hb_ac2 hb_ac3 (Nat.le_of_ble_eq_true rfl) h17 ?_
  refine hs_aload_n dX4_copyFrom_83 1 rfl ?_
  obtain ⟨r18, h18, h⟩ := hb_bind h
  refine hs_getR dX4_copyFrom_84 lkX4_27 rfl h18 ?_
  refine hs_iconst (v := (0 : Int32)) dX4_copyFrom_87 (by decide) ?_
  refine hs_aload_n dX4_copyFrom_88 0 rfl ?_
  obtain ⟨r19, h19, h⟩ := hb_bind h
  refine hs_getR dX4_copyFrom_89 lkX4_27 rfl h19 ?_
  refine hs_iconst (v := (0 : Int32)) dX4_copyFrom_92 (by decide) ?_
  refine hs_bipush (v := (40 : Int32)) dX4_copyFrom_93 (by decide) ?_
  obtain ⟨r20, h20, h⟩ := hb_bind h
  refine hs_copy dX4_copyFrom_95 wd_332 hb_ac1 hb_ac2 hb_ac3 (Nat.le_of_ble_eq_true rfl) h20 ?_
  refine hs_aload_n dX4_copyFrom_98 1 rfl ?_
  obtain ⟨r21, h21, h⟩ := hb_bind h
  refine hs_getR dX4_copyFrom_99 lkX4_30 rfl h21 ?_
  refine hs_iconst (v := (0 : Int32)) dX4_copyFrom_102 (by decide) ?_
  refine hs_aload_n dX4_copyFrom_103 0 rfl ?_
  obtain ⟨r22, h22, h⟩ := hb_bind h
  refine hs_getR dX4_copyFrom_104 lkX4_30 rfl h22 ?_
  refine hs_iconst (v := (0 : Int32)) dX4_copyFrom_107 (by decide) ?_
  refine hs_bipush (v := (40 : Int32)) dX4_copyFrom_108 (by decide) ?_
  obtain ⟨r23, h23, h⟩ := hb_bind h
  refine hs_copy dX4_copyFrom_110 wd_332 hb_ac1 hb_ac2 hb_ac3 (Nat.le_of_ble_eq_true rfl) h23 ?_
  refine hs_aload_n dX4_copyFrom_113 1 rfl ?_
  obtain ⟨r24, h24, h⟩ := hb_bind h
  refine hs_getR dX4_copyFrom_114 lkX4_33 rfl h24 ?_
  refine hs_iconst (v := (0 : Int32)) dX4_copyFrom_117 (by decide) ?_
  refine hs_aload_n dX4_copyFrom_118 0 rfl ?_
  obtain ⟨r25, h25, h⟩ := hb_bind h
  refine hs_getR dX4_copyFrom_119 lkX4_33 rfl h25 ?_
  refine hs_iconst (v := (0 : Int32)) dX4_copyFrom_122 (by decide) ?_
  refine hs_bipush (v := (40 : Int32)) dX4_copyFrom_123 (by decide) ?_
  obtain ⟨r26, h26, h⟩ := hb_bind h
  refine hs_copy dX4_copyFrom_125 wd_332 hb_ac1 hb_ac2 hb_ac3 (Nat.le_of_ble_eq_true rfl) h26 ?_
  refine hs_aload_n dX4_copyFrom_128 1 rfl ?_
  obtain ⟨r27, h27, h⟩ := hb_bind h
  refine hs_getR dX4_copyFrom_129 lkX4_36 rfl h27 ?_
  refine hs_iconst (v := (0 : Int32)) dX4_copyFrom_132 (by decide) ?_
  refine hs_aload_n dX4_copyFrom_133 0 rfl ?_
  obtain ⟨r28, h28, h⟩ := hb_bind h
  refine hs_getR dX4_copyFrom_134 lkX4_36 rfl h28 ?_
  refine hs_iconst (v := (0 : Int32)) dX4_copyFrom_137 (by decide) ?_
  refine hs_bipush (v := (40 : Int32)) dX4_copyFrom_138 (by decide) ?_
  obtain ⟨r29, h29, h⟩ := hb_bind h
  refine hs_copy dX4_copyFrom_140 wd_332 hb_ac1 hb_ac2 hb_ac3 (Nat.le_of_ble_eq_true rfl) h29 ?_
  refine hs_aload_n dX4_copyFrom_143 1 rfl ?_
  obtain ⟨r30, h30, h⟩ := hb_bind h
  refine hs_getR dX4_copyFrom_144 lkX4_39 rfl h30 ?_
  refine hs_iconst (v := (0 : Int32)) dX4_copyFrom_147 (by decide) ?_
  refine hs_aload_n dX4_copyFrom_148 0 rfl ?_
  obtain ⟨r31, h31, h⟩ := hb_bind h
  refine hs_getR dX4_copyFrom_149 lkX4_39 rfl h31 ?_
  refine hs_iconst (v := (0 : Int32)) dX4_copyFrom_152 (by decide) ?_
  refine hs_sipush (v := (320 : Int32)) dX4_copyFrom_153 (by decide) ?_
  obtain ⟨r32, h32, h⟩ := hb_bind h
  refine hs_copy dX4_copyFrom_156 wd_332 hb_ac1 hb_ac2 hb_ac3 (Nat.le_of_ble_eq_true rfl) h32 ?_
  refine hs_aload_n dX4_copyFrom_159 0 rfl ?_
  refine hs_aload_n dX4_copyFrom_160 1 rfl ?_
  obtain ⟨r33, h33, h⟩ := hb_bind h
  refine hs_getI dX4_copyFrom_161 lkX4_52 rfl h33 ?_
  obtain ⟨r34, h34, h⟩ := hb_bind h
  refine hs_putI dX4_copyFrom_164 lpX4_copyFrom_52 rfl h34 ?_
  refine hs_aload_n dX4_copyFrom_167 0 rfl ?_
  refine hs_dup dX4_copyFrom_168 rfl ?_
  obtain ⟨r35, h35, h⟩ := hb_bind h
  refine hs_getI dX4_copyFrom_169 lkX4_61 rfl h35 ?_
  refine hs_iconst (v := (1 : Int32)) dX4_copyFrom_172 (by decide) ?_
  refine hs_iadd dX4_copyFrom_173 ?_
  obtain ⟨r36, h36, h⟩ := hb_bind h
  refine hs_putI dX4_copyFrom_174 lpX4_copyFrom_61 rfl h36 ?_
  obtain rfl := Option.some.inj h
  exact hs_return dX4_copyFrom_177 rfl (fun _ => rfl)
def mX4_hasClass : hb_Y := (yX4_hasClass, cX4_hasClass, 2, (some .boolean), [], false)
theorem okX4_hasClass : hb_okV mX4_hasClass 1 := ⟨⟨hb_w 2 (by decide +kernel) (by decide +kernel), hb_w 523 (by decide +kernel) (by decide +kernel), ⟨by decide +kernel, by decide +kernel, by decide +kernel⟩, by decide⟩, hb_w 521 (by decide +kernel) (by decide +kernel), hb_w 522 (by decide +kernel) (by decide +kernel)⟩
set_option maxHeartbeats 4000000 in
set_option maxRecDepth 20000 in
theorem c_X4_hasClass {G : hb_G} {l : Launch} {z : Bool} {x0 : Nat} {x1 : Int32} {σ : hb_M} {r : (Int32 × hb_M)} (h : f_X4_hasClass x0 x1 σ = some r) : hb_Call G l z 0 0 0 mX4_hasClass [.ref x0, .int x1] σ (.inl (some (.int r.1)), r.2) := by
  refine hb_met (by decide) (Nat.le_of_ble_eq_true rfl) ?_
  unfold f_X4_hasClass at h
  refine hs_iload_n dX4_hasClass_0 1 rfl ?_
  refine hs_if_lt (tgt := 16) dX4_hasClass_1 (by decide) (fun hc1 => ?_) (fun hc1 => ?_)
  · rw [if_pos hc1] at h
    refine hs_iconst (v := (0 : Int32)) dX4_hasClass_16 (by decide) ?_
    obtain rfl := Option.some.inj h
    exact hs_ireturn dX4_hasClass_17 rfl (by decide) (fun _ => rfl)
  · rw [if_neg hc1] at h
    refine hs_iload_n dX4_hasClass_4 1 rfl ?_
    refine hs_aload_n dX4_hasClass_5 0 rfl ?_
    obtain ⟨r2, h2, h⟩ := hb_bind h
    refine hs_getI dX4_hasClass_6 lkX4_42 rfl h2 ?_
    refine hs_icmp_ge (tgt := 16) dX4_hasClass_9 (by decide) (fun hc3 => ?_) (fun hc3 => ?_)
    · rw [if_pos hc3] at h
      refine hs_iconst (v := (0 : Int32)) dX4_hasClass_16 (by decide) ?_
      obtain rfl := Option.some.inj h
      exact hs_ireturn dX4_hasClass_17 rfl (by decide) (fun _ => rfl)
    · rw [if_neg hc3] at h
      refine hs_iconst (v := (1 : Int32)) dX4_hasClass_12 (by decide) ?_
      refine hs_goto (tgt := 17) dX4_hasClass_13 (by decide) ?_
      obtain rfl := Option.some.inj h
      exact hs_ireturn dX4_hasClass_17 rfl (by decide) (fun _ => rfl)
def mX4_hasGroup : hb_Y := (yX4_hasGroup, cX4_hasGroup, 2, (some .boolean), [], false)
set_option maxHeartbeats 4000000 in
set_option maxRecDepth 20000 in
theorem c_X4_hasGroup {G : hb_G} {l : Launch} {z : Bool} {x0 : Nat} {x1 : Int32} {σ : hb_M} {r : (Int32 × hb_M)} (h : f_X4_hasGroup x0 x1 σ = some r) : hb_Call G l z 1 0 0 mX4_hasGroup [.ref x0, .int x1] σ (.inl (some (.int r.1)), r.2) := by
  refine hb_met (by decide) (Nat.le_of_ble_eq_true rfl) ?_
  unfold f_X4_hasGroup at h
  refine hs_aload_n dX4_hasGroup_0 0 rfl ?_
  refine hs_iload_n dX4_hasGroup_1 1 rfl ?_
  obtain ⟨r1, h1, h⟩ := hb_bind h
  obtain ⟨h1, nf1, hb1⟩ := hb_on_at h1
  refine hs_callVi (μ' := mX4_hasClass) (mc := 0) (ms := 0) (rc := 0) (rs := 0) (As := [.int x1]) (rest := []) (ci := 4) dX4_hasGroup_2 lmX4_64 okX4_hasClass rfl (by decide) rfl (Nat.le_of_ble_eq_true rfl) rfl hb1 (c_X4_hasClass h1) ?_
  refine hs_if_ne (tgt := 20) dX4_hasGroup_5 (by decide) (fun hc2 => ?_) (fun hc2 => ?_)
  · rw [if_neg hc2] at h
    refine hs_iconst (v := (1 : Int32)) dX4_hasGroup_20 (by decide) ?_
    refine hs_goto (tgt := 25) dX4_hasGroup_21 (by decide) ?_
    obtain rfl := Option.some.inj h
    exact hs_ireturn dX4_hasGroup_25 rfl (by decide) (fun _ => rfl)
  · rw [if_pos hc2] at h
    refine hs_iload_n dX4_hasGroup_8 1 rfl ?_
    refine hs_bipush (v := (10 : Int32)) dX4_hasGroup_9 (by decide) ?_
    refine hs_icmp_eq (tgt := 20) dX4_hasGroup_11 (by decide) (fun hc3 => ?_) (fun hc3 => ?_)
    · rw [if_pos hc3] at h
      refine hs_iconst (v := (1 : Int32)) dX4_hasGroup_20 (by decide) ?_
      refine hs_goto (tgt := 25) dX4_hasGroup_21 (by decide) ?_
      obtain rfl := Option.some.inj h
      exact hs_ireturn dX4_hasGroup_25 rfl (by decide) (fun _ => rfl)
    · rw [if_neg hc3] at h
      refine hs_iload_n dX4_hasGroup_14 1 rfl ?_
      refine hs_bipush (v := (11 : Int32)) dX4_hasGroup_15 (by decide) ?_
      refine hs_icmp_ne (tgt := 24) dX4_hasGroup_17 (by decide) (fun hc4 => ?_) (fun hc4 => ?_)
      · rw [if_neg hc4] at h
        refine hs_iconst (v := (0 : Int32)) dX4_hasGroup_24 (by decide) ?_
        obtain rfl := Option.some.inj h
        exact hs_ireturn dX4_hasGroup_25 rfl (by decide) (fun _ => rfl)
      · rw [if_pos hc4] at h
        refine hs_iconst (v := (1 : Int32)) dX4_hasGroup_20 (by decide) ?_
        refine hs_goto (tgt := 25) dX4_hasGroup_21 (by decide) ?_
        obtain rfl := Option.some.inj h
        exact hs_ireturn dX4_hasGroup_25 rfl (by decide) (fun _ => rfl)
def mX4_hasObject : hb_Y := (yX4_hasObject, cX4_hasObject, 2, (some .boolean), [], false)
theorem okX4_hasObject : hb_okV mX4_hasObject 1 := ⟨⟨hb_w 2 (by decide +kernel) (by decide +kernel), hb_w 442 (by decide +kernel) (by decide +kernel), ⟨by decide +kernel, by decide +kernel, by decide +kernel⟩, by decide⟩, hb_w 440 (by decide +kernel) (by decide +kernel), hb_w 441 (by decide +kernel) (by decide +kernel)⟩
set_option maxHeartbeats 4000000 in
set_option maxRecDepth 20000 in
theorem c_X4_hasObject {G : hb_G} {l : Launch} {z : Bool} {x0 : Nat} {x1 : Int32} {σ : hb_M} {r : (Int32 × hb_M)} (h : f_X4_hasObject x0 x1 σ = some r) : hb_Call G l z 0 0 0 mX4_hasObject [.ref x0, .int x1] σ (.inl (some (.int r.1)), r.2) := by
  refine hb_met (by decide) (Nat.le_of_ble_eq_true rfl) ?_
  unfold f_X4_hasObject at h
  refine hs_iload_n dX4_hasObject_0 1 rfl ?_
  refine hs_if_lt (tgt := 24) dX4_hasObject_1 (by decide) (fun hc1 => ?_) (fun hc1 => ?_)
  · rw [if_pos hc1] at h
    refine hs_iconst (v := (0 : Int32)) dX4_hasObject_24 (by decide) ?_
    obtain rfl := Option.some.inj h
    exact hs_ireturn dX4_hasObject_25 rfl (by decide) (fun _ => rfl)
  · rw [if_neg hc1] at h
    refine hs_iload_n dX4_hasObject_4 1 rfl ?_
    refine hs_bipush (v := (40 : Int32)) dX4_hasObject_5 (by decide) ?_
    refine hs_icmp_ge (tgt := 24) dX4_hasObject_7 (by decide) (fun hc2 => ?_) (fun hc2 => ?_)
    · rw [if_pos hc2] at h
      refine hs_iconst (v := (0 : Int32)) dX4_hasObject_24 (by decide) ?_
      obtain rfl := Option.some.inj h
      exact hs_ireturn dX4_hasObject_25 rfl (by decide) (fun _ => rfl)
    · rw [if_neg hc2] at h
      refine hs_aload_n dX4_hasObject_10 0 rfl ?_
      obtain ⟨r3, h3, h⟩ := hb_bind h
      refine hs_getR dX4_hasObject_11 lkX4_21 rfl h3 ?_
      refine hs_iload_n dX4_hasObject_14 1 rfl ?_
      obtain ⟨r4, h4, h⟩ := hb_bind h
      refine hs_iald dX4_hasObject_15 h4 ?_
      refine hs_iconst (v := (-1 : Int32)) dX4_hasObject_16 (by decide) ?_
      refine hs_icmp_eq (tgt := 24) dX4_hasObject_17 (by decide) (fun hc5 => ?_) (fun hc5 => ?_)
      · rw [if_pos hc5] at h
        refine hs_iconst (v := (0 : Int32)) dX4_hasObject_24 (by decide) ?_
        obtain rfl := Option.some.inj h
        exact hs_ireturn dX4_hasObject_25 rfl (by decide) (fun _ => rfl)
      · rw [if_neg hc5] at h
        refine hs_iconst (v := (1 : Int32)) dX4_hasObject_20 (by decide) ?_
        refine hs_goto (tgt := 25) dX4_hasObject_21 (by decide) ?_
        obtain rfl := Option.some.inj h
        exact hs_ireturn dX4_hasObject_25 rfl (by decide) (fun _ => rfl)
def mX4_hasSlot : hb_Y := (yX4_hasSlot, cX4_hasSlot, 3, (some .boolean), [], false)
theorem okX4_hasSlot : hb_okV mX4_hasSlot 2 := ⟨⟨hb_w 2 (by decide +kernel) (by decide +kernel), hb_w 720 (by decide +kernel) (by decide +kernel), ⟨by decide +kernel, by decide +kernel, by decide +kernel⟩, by decide⟩, hb_w 718 (by decide +kernel) (by decide +kernel), hb_w 719 (by decide +kernel) (by decide +kernel)⟩
set_option maxHeartbeats 4000000 in
set_option maxRecDepth 20000 in
theorem c_X4_hasSlot {G : hb_G} {l : Launch} {z : Bool} {x0 : Nat} {x1 : Int32} {x2 : Int32} {σ : hb_M} {r : (Int32 × hb_M)} (h : f_X4_hasSlot x0 x1 x2 σ = some r) : hb_Call G l z 1 0 0 mX4_hasSlot [.ref x0, .int x1, .int x2] σ (.inl (some (.int r.1)), r.2) := by
  refine hb_met (by decide) (Nat.le_of_ble_eq_true rfl) ?_
  unfold f_X4_hasSlot at h
  refine hs_aload_n dX4_hasSlot_0 0 rfl ?_
  refine hs_iload_n dX4_hasSlot_1 1 rfl ?_
  obtain ⟨r1, h1, h⟩ := hb_bind h
  obtain ⟨h1, nf1, hb1⟩ := hb_on_at h1
  refine hs_callVi (μ' := mX4_hasObject) (mc := 0) (ms := 0) (rc := 0) (rs := 0) (As := [.int x1]) (rest := []) (ci := 4) dX4_hasSlot_2 lmX4_68 okX4_hasObject rfl (by decide) rfl (Nat.le_of_ble_eq_true rfl) rfl hb1 (c_X4_hasObject h1) ?_
  refine hs_if_eq (tgt := 26) dX4_hasSlot_5 (by decide) (fun hc2 => ?_) (fun hc2 => ?_)
  · rw [if_pos hc2] at h
    refine hs_iconst (v := (0 : Int32)) dX4_hasSlot_26 (by decide) ?_
    obtain rfl := Option.some.inj h
    exact hs_ireturn dX4_hasSlot_27 rfl (by decide) (fun _ => rfl)
  · rw [if_neg hc2] at h
    refine hs_iload_n dX4_hasSlot_8 2 rfl ?_
    refine hs_if_lt (tgt := 26) dX4_hasSlot_9 (by decide) (fun hc3 => ?_) (fun hc3 => ?_)
    · rw [if_pos hc3] at h
      refine hs_iconst (v := (0 : Int32)) dX4_hasSlot_26 (by decide) ?_
      obtain rfl := Option.some.inj h
      exact hs_ireturn dX4_hasSlot_27 rfl (by decide) (fun _ => rfl)
    · rw [if_neg hc3] at h
      refine hs_iload_n dX4_hasSlot_12 2 rfl ?_
      refine hs_aload_n dX4_hasSlot_13 0 rfl ?_
      obtain ⟨r4, h4, h⟩ := hb_bind h
      refine hs_getR dX4_hasSlot_14 lkX4_30 rfl h4 ?_
      refine hs_iload_n dX4_hasSlot_17 1 rfl ?_
      obtain ⟨r5, h5, h⟩ := hb_bind h
      refine hs_iald dX4_hasSlot_18 h5 ?_
      refine hs_icmp_ge (tgt := 26) dX4_hasSlot_19 (by decide) (fun hc6 => ?_) (fun hc6 => ?_)
      · rw [if_pos hc6] at h
        refine hs_iconst (v := (0 : Int32)) dX4_hasSlot_26 (by decide) ?_
        obtain rfl := Option.some.inj h
        exact hs_ireturn dX4_hasSlot_27 rfl (by decide) (fun _ => rfl)
      · rw [if_neg hc6] at h
        refine hs_iconst (v := (1 : Int32)) dX4_hasSlot_22 (by decide) ?_
        refine hs_goto (tgt := 27) dX4_hasSlot_23 (by decide) ?_
        obtain rfl := Option.some.inj h
        exact hs_ireturn dX4_hasSlot_27 rfl (by decide) (fun _ => rfl)
def mX4_problemOfClass : hb_Y := (yX4_problemOfClass, cX4_problemOfClass, 5, (some .int), [], false)
set_option maxHeartbeats 4000000 in
set_option maxRecDepth 20000 in
theorem c_X4_problemOfClass_b34 {G : hb_G} {l : Launch} {z : Bool}  {x0 : Nat} {x1 : Int32} {x2 : Int32} {s0 : Int32} {σ : hb_M} {r : (Int32 × hb_M)} (h : f_X4_problemOfClass_b34 x0 x1 x2 s0 σ = some r) : hb_T G l z mX4_problemOfClass 1 0 0 34 [(0, .ref x0), (1, .int x1), (2, .int x2)] [.int s0] σ (.inl (some (.int r.1)), r.2) := by
  unfold f_X4_problemOfClass_b34 at h
  refine hs_istore (lv' := [(4, .int s0), (0, .ref x0), (1, .int x1), (2, .int x2)]) dX4_problemOfClass_34 (by decide) rfl ?_
  refine hs_iload dX4_problemOfClass_36 0 rfl ?_
  refine hs_if_eq (tgt := 53) dX4_problemOfClass_38 (by decide) (fun hc1 => ?_) (fun hc1 => ?_)
  · rw [if_pos hc1] at h
    refine hs_iconst (v := (2 : Int32)) dX4_problemOfClass_53 (by decide) ?_
    obtain rfl := Option.some.inj h
    exact hs_ireturn dX4_problemOfClass_54 rfl (by rfl) (fun _ => rfl)
  · rw [if_neg hc1] at h
    refine hs_aload_n dX4_problemOfClass_41 1 rfl ?_
    obtain ⟨r2, h2, h⟩ := hb_bind h
    refine hs_getR dX4_problemOfClass_42 lkX4_15 rfl h2 ?_
    refine hs_iload_n dX4_problemOfClass_45 2 rfl ?_
    obtain ⟨r3, h3, h⟩ := hb_bind h
    refine hs_iald dX4_problemOfClass_46 h3 ?_
    refine hs_iload_n dX4_problemOfClass_47 3 rfl ?_
    refine hs_iadd dX4_problemOfClass_48 ?_
    refine hs_iconst (v := (5 : Int32)) dX4_problemOfClass_49 (by decide) ?_
    refine hs_icmp_le (tgt := 55) dX4_problemOfClass_50 (by decide) (fun hc4 => ?_) (fun hc4 => ?_)
    · rw [if_pos hc4] at h
      refine hs_aload_n dX4_problemOfClass_55 1 rfl ?_
      obtain ⟨r5, h5, h⟩ := hb_bind h
      refine hs_getI dX4_problemOfClass_56 lkX4_42 rfl h5 ?_
      refine hs_bipush (v := (10 : Int32)) dX4_problemOfClass_59 (by decide) ?_
      refine hs_icmp_ge (tgt := 68) dX4_problemOfClass_61 (by decide) (fun hc6 => ?_) (fun hc6 => ?_)
      · rw [if_pos hc6] at h
        refine hs_iconst (v := (3 : Int32)) dX4_problemOfClass_68 (by decide) ?_
        obtain rfl := Option.some.inj h
        exact hs_ireturn dX4_problemOfClass_69 rfl (by rfl) (fun _ => rfl)
      · rw [if_neg hc6] at h
        refine hs_iconst (v := (0 : Int32)) dX4_problemOfClass_64 (by decide) ?_
        refine hs_goto (tgt := 69) dX4_problemOfClass_65 (by decide) ?_
        obtain rfl := Option.some.inj h
        exact hs_ireturn dX4_problemOfClass_69 rfl (by rfl) (fun _ => rfl)
    · rw [if_neg hc4] at h
      refine hs_iconst (v := (2 : Int32)) dX4_problemOfClass_53 (by decide) ?_
      obtain rfl := Option.some.inj h
      exact hs_ireturn dX4_problemOfClass_54 rfl (by rfl) (fun _ => rfl)
set_option maxHeartbeats 4000000 in
set_option maxRecDepth 20000 in
theorem c_X4_problemOfClass_b33 {G : hb_G} {l : Launch} {z : Bool}  {x0 : Nat} {x1 : Int32} {x2 : Int32} {σ : hb_M} {r : (Int32 × hb_M)} (h : f_X4_problemOfClass_b33 x0 x1 x2 σ = some r) : hb_T G l z mX4_problemOfClass 1 0 0 33 [(0, .ref x0), (1, .int x1), (2, .int x2)] [] σ (.inl (some (.int r.1)), r.2) := by
  unfold f_X4_problemOfClass_b33 at h
  refine hs_iconst (v := (0 : Int32)) dX4_problemOfClass_33 (by decide) ?_
  refine hs_sub (lv' := [(0, .ref x0), (1, .int x1), (2, .int x2)]) [0, 1, 2] rfl ?_
  exact c_X4_problemOfClass_b34 h
set_option maxHeartbeats 4000000 in
set_option maxRecDepth 20000 in
theorem c_X4_problemOfClass {G : hb_G} {l : Launch} {z : Bool} {x0 : Nat} {x1 : Int32} {x2 : Int32} {x3 : Int32} {σ : hb_M} {r : (Int32 × hb_M)} (h : f_X4_problemOfClass x0 x1 x2 x3 σ = some r) : hb_Call G l z 1 0 0 mX4_problemOfClass [.ref x0, .int x1, .int x2, .int x3] σ (.inl (some (.int r.1)), r.2) := by
  refine hb_met (by decide) (Nat.le_of_ble_eq_true rfl) ?_
  unfold f_X4_problemOfClass at h
  refine hs_aload_n dX4_problemOfClass_0 0 rfl ?_
  refine hs_iload_n dX4_problemOfClass_1 1 rfl ?_
  obtain ⟨r1, h1, h⟩ := hb_bind h
  obtain ⟨h1, nf1, hb1⟩ := hb_on_at h1
  refine hs_callVi (μ' := mX4_hasClass) (mc := 0) (ms := 0) (rc := 0) (rs := 0) (As := [.int x1]) (rest := []) (ci := 4) dX4_problemOfClass_2 lmX4_64 okX4_hasClass rfl (by decide) rfl (Nat.le_of_ble_eq_true rfl) rfl hb1 (c_X4_hasClass h1) ?_
  refine hs_if_ne (tgt := 10) dX4_problemOfClass_5 (by decide) (fun hc2 => ?_) (fun hc2 => ?_)
  · rw [if_neg hc2] at h
    refine hs_iload_n dX4_problemOfClass_10 2 rfl ?_
    refine hs_if_lt (tgt := 33) dX4_problemOfClass_11 (by decide) (fun hc3 => ?_) (fun hc3 => ?_)
    · rw [if_pos hc3] at h
      refine hs_sub (lv' := [(0, .ref x0), (1, .int x1), (2, .int x2)]) [0, 1, 2] rfl ?_
      exact c_X4_problemOfClass_b33 h
    · rw [if_neg hc3] at h
      refine hs_iload_n dX4_problemOfClass_14 2 rfl ?_
      refine hs_iconst (v := (3 : Int32)) dX4_problemOfClass_15 (by decide) ?_
      refine hs_icmp_gt (tgt := 33) dX4_problemOfClass_16 (by decide) (fun hc4 => ?_) (fun hc4 => ?_)
      · rw [if_pos hc4] at h
        refine hs_sub (lv' := [(0, .ref x0), (1, .int x1), (2, .int x2)]) [0, 1, 2] rfl ?_
        exact c_X4_problemOfClass_b33 h
      · rw [if_neg hc4] at h
        refine hs_iload_n dX4_problemOfClass_19 3 rfl ?_
        refine hs_if_lt (tgt := 33) dX4_problemOfClass_20 (by decide) (fun hc5 => ?_) (fun hc5 => ?_)
        · rw [if_pos hc5] at h
          refine hs_sub (lv' := [(0, .ref x0), (1, .int x1), (2, .int x2)]) [0, 1, 2] rfl ?_
          exact c_X4_problemOfClass_b33 h
        · rw [if_neg hc5] at h
          refine hs_iload_n dX4_problemOfClass_23 3 rfl ?_
          refine hs_bipush (v := (40 : Int32)) dX4_problemOfClass_24 (by decide) ?_
          refine hs_icmp_gt (tgt := 33) dX4_problemOfClass_26 (by decide) (fun hc6 => ?_) (fun hc6 => ?_)
          · rw [if_pos hc6] at h
            refine hs_sub (lv' := [(0, .ref x0), (1, .int x1), (2, .int x2)]) [0, 1, 2] rfl ?_
            exact c_X4_problemOfClass_b33 h
          · rw [if_neg hc6] at h
            refine hs_iconst (v := (1 : Int32)) dX4_problemOfClass_29 (by decide) ?_
            refine hs_goto (tgt := 34) dX4_problemOfClass_30 (by decide) ?_
            refine hs_sub (lv' := [(0, .ref x0), (1, .int x1), (2, .int x2)]) [0, 1, 2] rfl ?_
            exact c_X4_problemOfClass_b34 h
  · rw [if_pos hc2] at h
    refine hs_iconst (v := (1 : Int32)) dX4_problemOfClass_8 (by decide) ?_
    obtain rfl := Option.some.inj h
    exact hs_ireturn dX4_problemOfClass_9 rfl (by rfl) (fun _ => rfl)
def mX8_member : hb_Y := (yX8_member, cX8_member, 1, (some .long), [], false)
theorem okX8_member : hb_okS mX8_member 1 := ⟨⟨hb_w 1 (by decide +kernel) (by decide +kernel), hb_w 357 (by decide +kernel) (by decide +kernel), ⟨by decide +kernel, by decide +kernel, by decide +kernel⟩, by decide⟩, hb_w 356 (by decide +kernel) (by decide +kernel)⟩
set_option maxHeartbeats 4000000 in
set_option maxRecDepth 20000 in
theorem c_X8_member {G : hb_G} {l : Launch} {z : Bool} {x0 : Int32} {σ : hb_M} {r : (Int64 × hb_M)} (h : f_X8_member x0 σ = some r) : hb_Call G l z 0 0 0 mX8_member [.int x0] σ (.inl (some (.long r.1)), r.2) := by
  refine hb_met (by decide) (Nat.le_of_ble_eq_true rfl) ?_
  unfold f_X8_member at h
  refine hs_iload_n dX8_member_0 0 rfl ?_
  refine hs_if_lt (tgt := 16) dX8_member_1 (by decide) (fun hc1 => ?_) (fun hc1 => ?_)
  · rw [if_pos hc1] at h
    refine hs_lconst (v := (0 : Int64)) dX8_member_16 (by decide) ?_
    obtain rfl := Option.some.inj h
    exact hs_lreturn dX8_member_17 rfl (fun _ => rfl)
  · rw [if_neg hc1] at h
    refine hs_iload_n dX8_member_4 0 rfl ?_
    refine hs_bipush (v := (40 : Int32)) dX8_member_5 (by decide) ?_
    refine hs_icmp_ge (tgt := 16) dX8_member_7 (by decide) (fun hc2 => ?_) (fun hc2 => ?_)
    · rw [if_pos hc2] at h
      refine hs_lconst (v := (0 : Int64)) dX8_member_16 (by decide) ?_
      obtain rfl := Option.some.inj h
      exact hs_lreturn dX8_member_17 rfl (fun _ => rfl)
    · rw [if_neg hc2] at h
      refine hs_lconst (v := (1 : Int64)) dX8_member_10 (by decide) ?_
      refine hs_iload_n dX8_member_11 0 rfl ?_
      refine hs_lshl dX8_member_12 ?_
      refine hs_goto (tgt := 17) dX8_member_13 (by decide) ?_
      obtain rfl := Option.some.inj h
      exact hs_lreturn dX8_member_17 rfl (fun _ => rfl)
def mX4_allObjects : hb_Y := (yX4_allObjects, cX4_allObjects, 4, (some .long), [], false)
theorem okX4_allObjects : hb_okV mX4_allObjects 0 := ⟨⟨hb_w 2 (by decide +kernel) (by decide +kernel), hb_w 419 (by decide +kernel) (by decide +kernel), ⟨by decide +kernel, by decide +kernel, by decide +kernel⟩, by decide⟩, hb_w 417 (by decide +kernel) (by decide +kernel), hb_w 418 (by decide +kernel) (by decide +kernel)⟩
set_option maxHeartbeats 4000000 in
set_option maxRecDepth 20000 in
theorem c_X4_allObjects_b29 {G : hb_G} {l : Launch} {z : Bool}  (k4 : Nat → Int64 → Int32 → hb_M → Option (Int64 × hb_M)) (hk4 : ∀ (x0 : Nat) (x1 : Int64) (x3 : Int32) (σ : hb_M) (r : (Int64 × hb_M)), k4 x0 x1 x3 σ = some r → hb_T G l z mX4_allObjects 1 0 0 4 [(0, .ref x0), (1, .long x1), (3, .int x3)] [] σ (.inl (some (.long r.1)), r.2))  {x0 : Nat} {x3 : Int32} {s0 : Int64} {s1 : Int64} {σ : hb_M} {r : (Int64 × hb_M)} (h : f_X4_allObjects_b29 k4 x0 x3 s0 s1 σ = some r) : hb_T G l z mX4_allObjects 1 0 0 29 [(0, .ref x0), (3, .int x3)] [.long s1, .long s0] σ (.inl (some (.long r.1)), r.2) := by
  unfold f_X4_allObjects_b29 at h
  refine hs_lor dX4_allObjects_29 ?_
  refine hs_lstore_n (lv' := [(1, .long (s0 ||| s1)), (0, .ref x0), (3, .int x3)]) dX4_allObjects_30 (by decide) rfl ?_
  refine hs_iinc2 (k := (1 : Int32)) (lv' := [(3, .int (x3 + (1 : Int32))), (1, .long (s0 ||| s1)), (0, .ref x0)]) dX4_allObjects_31 (by decide) 2 rfl (by decide) rfl ?_
  refine hs_goto (tgt := 4) dX4_allObjects_34 (by decide) ?_
  refine hs_sub (lv' := [(0, .ref x0), (1, .long (s0 ||| s1)), (3, .int (x3 + (1 : Int32)))]) [2, 1, 0] rfl ?_
  exact hk4 _ _ _ _ _ h
set_option maxHeartbeats 4000000 in
set_option maxRecDepth 20000 in
theorem c_X4_allObjects_b4 {G : hb_G} {l : Launch} {z : Bool} : ∀ (n : Nat) (x0 : Nat) (x1 : Int64) (x3 : Int32) (σ : hb_M) (r : (Int64 × hb_M)), f_X4_allObjects_b4 n x0 x1 x3 σ = some r → hb_T G l z mX4_allObjects 1 0 0 4 [(0, .ref x0), (1, .long x1), (3, .int x3)] [] σ (.inl (some (.long r.1)), r.2) := by
  intro n
  induction n with
  | zero =>
    intro x0 x1 x3 σ r h
    cases h
  | succ n ih =>
    intro x0 x1 x3 σ r h
    rw [f_X4_allObjects_b4] at h
    refine hs_iload_n dX4_allObjects_4 2 rfl ?_
    refine hs_bipush (v := (40 : Int32)) dX4_allObjects_5 (by decide) ?_
    refine hs_icmp_ge (tgt := 37) dX4_allObjects_7 (by decide) (fun hc1 => ?_) (fun hc1 => ?_)
    · rw [if_pos hc1] at h
      refine hs_lload_n dX4_allObjects_37 1 rfl ?_
      obtain rfl := Option.some.inj h
      exact hs_lreturn dX4_allObjects_38 rfl (fun _ => rfl)
    · rw [if_neg hc1] at h
      refine hs_lload_n dX4_allObjects_10 1 rfl ?_
      refine hs_aload_n dX4_allObjects_11 0 rfl ?_
      obtain ⟨r2, h2, h⟩ := hb_bind h
      refine hs_getR dX4_allObjects_12 lkX4_21 rfl h2 ?_
      refine hs_iload_n dX4_allObjects_15 2 rfl ?_
      obtain ⟨r3, h3, h⟩ := hb_bind h
      refine hs_iald dX4_allObjects_16 h3 ?_
      refine hs_iconst (v := (-1 : Int32)) dX4_allObjects_17 (by decide) ?_
      refine hs_icmp_eq (tgt := 28) dX4_allObjects_18 (by decide) (fun hc4 => ?_) (fun hc4 => ?_)
      · rw [if_pos hc4] at h
        refine hs_lconst (v := (0 : Int64)) dX4_allObjects_28 (by decide) ?_
        refine hs_sub (lv' := [(0, .ref x0), (3, .int x3)]) [0, 2] rfl ?_
        exact c_X4_allObjects_b29 (f_X4_allObjects_b4 n) ih h
      · rw [if_neg hc4] at h
        refine hs_iload_n dX4_allObjects_21 2 rfl ?_
        obtain ⟨r5, h5, h⟩ := hb_bind h
        refine hs_callSNl (μ' := mX8_member) (mc := 0) (ms := 0) (rc := 0) (rs := 0) (As := [.int x3]) (rest := [.long x1]) dX4_allObjects_22 lnX4_137 okX8_member rfl (by decide) rfl (Nat.le_of_ble_eq_true rfl) (c_X8_member h5) ?_
        refine hs_goto (tgt := 29) dX4_allObjects_25 (by decide) ?_
        refine hs_sub (lv' := [(0, .ref x0), (3, .int x3)]) [0, 2] rfl ?_
        exact c_X4_allObjects_b29 (f_X4_allObjects_b4 n) ih h
set_option maxHeartbeats 4000000 in
set_option maxRecDepth 20000 in
theorem c_X4_allObjects {G : hb_G} {l : Launch} {z : Bool} {x0 : Nat} {σ : hb_M} {r : (Int64 × hb_M)} (h : f_X4_allObjects x0 σ = some r) : hb_Call G l z 1 0 0 mX4_allObjects [.ref x0] σ (.inl (some (.long r.1)), r.2) := by
  refine hb_met (by decide) (Nat.le_of_ble_eq_true rfl) ?_
  unfold f_X4_allObjects at h
  refine hs_lconst (v := (0 : Int64)) dX4_allObjects_0 (by decide) ?_
  refine hs_lstore_n (lv' := [(1, .long (0 : Int64)), (0, .ref x0)]) dX4_allObjects_1 (by decide) rfl ?_
  refine hs_iconst (v := (0 : Int32)) dX4_allObjects_2 (by decide) ?_
  refine hs_istore_n (lv' := [(3, .int (0 : Int32)), (1, .long (0 : Int64)), (0, .ref x0)]) dX4_allObjects_3 (by decide) rfl ?_
  refine hs_sub (lv' := [(0, .ref x0), (1, .long (0 : Int64)), (3, .int (0 : Int32))]) [2, 1, 0] rfl ?_
  exact c_X4_allObjects_b4 hb_FU _ _ _ _ _ h
def mJ13_bitCount_95d88 : hb_Y := (yJ13_bitCount_95d88, cJ13_bitCount_95d88, 2, (some .int), [], false)
theorem okJ13_bitCount_95d88 : hb_okS mJ13_bitCount_95d88 1 := ⟨⟨hb_w 20 (by decide +kernel) (by decide +kernel), hb_w 395 (by decide +kernel) (by decide +kernel), ⟨by decide +kernel, by decide +kernel, by decide +kernel⟩, by decide⟩, hb_w 394 (by decide +kernel) (by decide +kernel)⟩
set_option maxHeartbeats 4000000 in
set_option maxRecDepth 20000 in
theorem c_J13_bitCount_95d88 {G : hb_G} {l : Launch} {z : Bool} {x0 : Int64} {σ : hb_M} {r : (Int32 × hb_M)} (h : f_J13_bitCount_95d88 x0 σ = some r) : hb_Call G l z 0 0 0 mJ13_bitCount_95d88 [.long x0] σ (.inl (some (.int r.1)), r.2) := by
  refine hb_met (by decide) (Nat.le_of_ble_eq_true rfl) ?_
  unfold f_J13_bitCount_95d88 at h
  refine hs_lload_n dJ13_bitCount_95d88_0 0 rfl ?_
  refine hs_lload_n dJ13_bitCount_95d88_1 0 rfl ?_
  refine hs_iconst (v := (1 : Int32)) dJ13_bitCount_95d88_2 (by decide) ?_
  refine hs_lushr dJ13_bitCount_95d88_3 ?_
  refine hs_ldc2 (v := (6148914691236517205 : Int64)) dJ13_bitCount_95d88_4 wd_396 ?_
  refine hs_land dJ13_bitCount_95d88_7 ?_
  refine hs_lsub dJ13_bitCount_95d88_8 ?_
  obtain ⟨r1, h1, h⟩ := hb_bind h
  rw [show (x0 - ((x0.toUInt64 >>> ((1 : Int32).toInt64.toUInt64 &&& Int64.toUInt64 63)).toInt64 &&& (6148914691236517205 : Int64))) = r1 from Option.some.inj h1]
  refine hs_lstore_n (lv' := [(0, .long r1)]) dJ13_bitCount_95d88_9 (by decide) rfl ?_
  refine hs_lload_n dJ13_bitCount_95d88_10 0 rfl ?_
  refine hs_ldc2 (v := (3689348814741910323 : Int64)) dJ13_bitCount_95d88_11 wd_397 ?_
  refine hs_land dJ13_bitCount_95d88_14 ?_
  refine hs_lload_n dJ13_bitCount_95d88_15 0 rfl ?_
  refine hs_iconst (v := (2 : Int32)) dJ13_bitCount_95d88_16 (by decide) ?_
  refine hs_lushr dJ13_bitCount_95d88_17 ?_
  refine hs_ldc2 (v := (3689348814741910323 : Int64)) dJ13_bitCount_95d88_18 wd_397 ?_
  refine hs_land dJ13_bitCount_95d88_21 ?_
  refine hs_ladd dJ13_bitCount_95d88_22 ?_
  obtain ⟨r2, h2, h⟩ := hb_bind h
  rw [show ((r1 &&& (3689348814741910323 : Int64)) + ((r1.toUInt64 >>> ((2 : Int32).toInt64.toUInt64 &&& Int64.toUInt64 63)).toInt64 &&& (3689348814741910323 : Int64))) = r2 from Option.some.inj h2]
  refine hs_lstore_n (lv' := [(0, .long r2)]) dJ13_bitCount_95d88_23 (by decide) rfl ?_
  refine hs_lload_n dJ13_bitCount_95d88_24 0 rfl ?_
  refine hs_lload_n dJ13_bitCount_95d88_25 0 rfl ?_
  refine hs_iconst (v := (4 : Int32)) dJ13_bitCount_95d88_26 (by decide) ?_
  refine hs_lushr dJ13_bitCount_95d88_27 ?_
  refine hs_ladd dJ13_bitCount_95d88_28 ?_
  refine hs_ldc2 (v := (1085102592571150095 : Int64)) dJ13_bitCount_95d88_29 wd_398 ?_
  refine hs_land dJ13_bitCount_95d88_32 ?_
  obtain ⟨r3, h3, h⟩ := hb_bind h
  rw [show ((r2 + (r2.toUInt64 >>> ((4 : Int32).toInt64.toUInt64 &&& Int64.toUInt64 63)).toInt64) &&& (1085102592571150095 : Int64)) = r3 from Option.some.inj h3]
  refine hs_lstore_n (lv' := [(0, .long r3)]) dJ13_bitCount_95d88_33 (by decide) rfl ?_
  refine hs_lload_n dJ13_bitCount_95d88_34 0 rfl ?_
  refine hs_lload_n dJ13_bitCount_95d88_35 0 rfl ?_
  refine hs_bipush (v := (8 : Int32)) dJ13_bitCount_95d88_36 (by decide) ?_
  refine hs_lushr dJ13_bitCount_95d88_38 ?_
  refine hs_ladd dJ13_bitCount_95d88_39 ?_
  obtain ⟨r4, h4, h⟩ := hb_bind h
  rw [show (r3 + (r3.toUInt64 >>> ((8 : Int32).toInt64.toUInt64 &&& Int64.toUInt64 63)).toInt64) = r4 from Option.some.inj h4]
  refine hs_lstore_n (lv' := [(0, .long r4)]) dJ13_bitCount_95d88_40 (by decide) rfl ?_
  refine hs_lload_n dJ13_bitCount_95d88_41 0 rfl ?_
  refine hs_lload_n dJ13_bitCount_95d88_42 0 rfl ?_
  refine hs_bipush (v := (16 : Int32)) dJ13_bitCount_95d88_43 (by decide) ?_
  refine hs_lushr dJ13_bitCount_95d88_45 ?_
  refine hs_ladd dJ13_bitCount_95d88_46 ?_
  obtain ⟨r5, h5, h⟩ := hb_bind h
  rw [show (r4 + (r4.toUInt64 >>> ((16 : Int32).toInt64.toUInt64 &&& Int64.toUInt64 63)).toInt64) = r5 from Option.some.inj h5]
  refine hs_lstore_n (lv' := [(0, .long r5)]) dJ13_bitCount_95d88_47 (by decide) rfl ?_
  refine hs_lload_n dJ13_bitCount_95d88_48 0 rfl ?_
  refine hs_lload_n dJ13_bitCount_95d88_49 0 rfl ?_
  refine hs_bipush (v := (32 : Int32)) dJ13_bitCount_95d88_50 (by decide) ?_
  refine hs_lushr dJ13_bitCount_95d88_52 ?_
  refine hs_ladd dJ13_bitCount_95d88_53 ?_
  obtain ⟨r6, h6, h⟩ := hb_bind h
  rw [show (r5 + (r5.toUInt64 >>> ((32 : Int32).toInt64.toUInt64 &&& Int64.toUInt64 63)).toInt64) = r6 from Option.some.inj h6]
  refine hs_lstore_n (lv' := [(0, .long r6)]) dJ13_bitCount_95d88_54 (by decide) rfl ?_
  refine hs_lload_n dJ13_bitCount_95d88_55 0 rfl ?_
  refine hs_l2i dJ13_bitCount_95d88_56 ?_
  refine hs_bipush (v := (127 : Int32)) dJ13_bitCount_95d88_57 (by decide) ?_
  refine hs_iand dJ13_bitCount_95d88_59 ?_
  obtain rfl := Option.some.inj h
  exact hs_ireturn dJ13_bitCount_95d88_60 rfl (by rfl) (fun _ => rfl)
def mX4_objectCount : hb_Y := (yX4_objectCount, cX4_objectCount, 1, (some .int), [], false)
theorem okX4_objectCount : hb_okV mX4_objectCount 0 := ⟨⟨hb_w 2 (by decide +kernel) (by decide +kernel), hb_w 454 (by decide +kernel) (by decide +kernel), ⟨by decide +kernel, by decide +kernel, by decide +kernel⟩, by decide⟩, hb_w 452 (by decide +kernel) (by decide +kernel), hb_w 453 (by decide +kernel) (by decide +kernel)⟩
set_option maxHeartbeats 4000000 in
set_option maxRecDepth 20000 in
theorem c_X4_objectCount {G : hb_G} {l : Launch} {z : Bool} {x0 : Nat} {σ : hb_M} {r : (Int32 × hb_M)} (h : f_X4_objectCount x0 σ = some r) : hb_Call G l z 2 0 0 mX4_objectCount [.ref x0] σ (.inl (some (.int r.1)), r.2) := by
  refine hb_met (by decide) (Nat.le_of_ble_eq_true rfl) ?_
  unfold f_X4_objectCount at h
  refine hs_aload_n dX4_objectCount_0 0 rfl ?_
  obtain ⟨r1, h1, h⟩ := hb_bind h
  obtain ⟨h1, nf1, hb1⟩ := hb_on_at h1
  refine hs_callVl (μ' := mX4_allObjects) (mc := 0) (ms := 0) (rc := 0) (rs := 0) (As := []) (rest := []) (ci := 4) dX4_objectCount_1 lmX4_108 okX4_allObjects rfl (by decide) rfl (Nat.le_of_ble_eq_true rfl) rfl hb1 (c_X4_allObjects h1) ?_
  obtain ⟨r2, h2, h⟩ := hb_bind h
  refine hs_callSi (μ' := mJ13_bitCount_95d88) (mc := 0) (ms := 0) (rc := 0) (rs := 0) (As := [.long r1.1]) (rest := []) dX4_objectCount_4 lmX4_141 okJ13_bitCount_95d88 rfl (by decide) rfl (Nat.le_of_ble_eq_true rfl) (c_J13_bitCount_95d88 h2) ?_
  obtain rfl := Option.some.inj h
  exact hs_ireturn dX4_objectCount_7 rfl (by rfl) (fun _ => rfl)
def mX4_problemOfHolder : hb_Y := (yX4_problemOfHolder, cX4_problemOfHolder, 1, (some .int), [], false)
theorem okX4_problemOfHolder : hb_okV mX4_problemOfHolder 0 := ⟨⟨hb_w 2 (by decide +kernel) (by decide +kernel), hb_w 706 (by decide +kernel) (by decide +kernel), ⟨by decide +kernel, by decide +kernel, by decide +kernel⟩, by decide⟩, hb_w 704 (by decide +kernel) (by decide +kernel), hb_w 705 (by decide +kernel) (by decide +kernel)⟩
set_option maxHeartbeats 4000000 in
set_option maxRecDepth 20000 in
theorem c_X4_problemOfHolder {G : hb_G} {l : Launch} {z : Bool} {x0 : Nat} {σ : hb_M} {r : (Int32 × hb_M)} (h : f_X4_problemOfHolder x0 σ = some r) : hb_Call G l z 3 0 0 mX4_problemOfHolder [.ref x0] σ (.inl (some (.int r.1)), r.2) := by
  refine hb_met (by decide) (Nat.le_of_ble_eq_true rfl) ?_
  unfold f_X4_problemOfHolder at h
  refine hs_aload_n dX4_problemOfHolder_0 0 rfl ?_
  obtain ⟨r1, h1, h⟩ := hb_bind h
  obtain ⟨h1, nf1, hb1⟩ := hb_on_at h1
  refine hs_callVi (μ' := mX4_objectCount) (mc := 0) (ms := 0) (rc := 0) (rs := 0) (As := []) (rest := []) (ci := 4) dX4_problemOfHolder_1 lmX4_75 okX4_objectCount rfl (by decide) rfl (Nat.le_of_ble_eq_true rfl) rfl hb1 (c_X4_objectCount h1) ?_
  refine hs_bipush (v := (40 : Int32)) dX4_problemOfHolder_4 (by decide) ?_
  refine hs_icmp_ge (tgt := 13) dX4_problemOfHolder_6 (by decide) (fun hc2 => ?_) (fun hc2 => ?_)
  · rw [if_pos hc2] at h
    refine hs_iconst (v := (3 : Int32)) dX4_problemOfHolder_13 (by decide) ?_
    obtain rfl := Option.some.inj h
    exact hs_ireturn dX4_problemOfHolder_14 rfl (by rfl) (fun _ => rfl)
  · rw [if_neg hc2] at h
    refine hs_iconst (v := (0 : Int32)) dX4_problemOfHolder_9 (by decide) ?_
    refine hs_goto (tgt := 14) dX4_problemOfHolder_10 (by decide) ?_
    obtain rfl := Option.some.inj h
    exact hs_ireturn dX4_problemOfHolder_14 rfl (by rfl) (fun _ => rfl)
def mX4_problemOfInstance : hb_Y := (yX4_problemOfInstance, cX4_problemOfInstance, 2, (some .int), [], false)
set_option maxHeartbeats 4000000 in
set_option maxRecDepth 20000 in
theorem c_X4_problemOfInstance {G : hb_G} {l : Launch} {z : Bool} {x0 : Nat} {x1 : Int32} {σ : hb_M} {r : (Int32 × hb_M)} (h : f_X4_problemOfInstance x0 x1 σ = some r) : hb_Call G l z 4 0 0 mX4_problemOfInstance [.ref x0, .int x1] σ (.inl (some (.int r.1)), r.2) := by
  refine hb_met (by decide) (Nat.le_of_ble_eq_true rfl) ?_
  unfold f_X4_problemOfInstance at h
  refine hs_aload_n dX4_problemOfInstance_0 0 rfl ?_
  refine hs_iload_n dX4_problemOfInstance_1 1 rfl ?_
  obtain ⟨r1, h1, h⟩ := hb_bind h
  obtain ⟨h1, nf1, hb1⟩ := hb_on_at h1
  refine hs_callVi (μ' := mX4_hasClass) (mc := 0) (ms := 0) (rc := 0) (rs := 0) (As := [.int x1]) (rest := []) (ci := 4) dX4_problemOfInstance_2 lmX4_64 okX4_hasClass rfl (by decide) rfl (Nat.le_of_ble_eq_true rfl) rfl hb1 (c_X4_hasClass h1) ?_
  refine hs_if_eq (tgt := 15) dX4_problemOfInstance_5 (by decide) (fun hc2 => ?_) (fun hc2 => ?_)
  · rw [if_pos hc2] at h
    refine hs_iconst (v := (1 : Int32)) dX4_problemOfInstance_15 (by decide) ?_
    obtain rfl := Option.some.inj h
    exact hs_ireturn dX4_problemOfInstance_16 rfl (by rfl) (fun _ => rfl)
  · rw [if_neg hc2] at h
    refine hs_aload_n dX4_problemOfInstance_8 0 rfl ?_
    obtain ⟨r3, h3, h⟩ := hb_bind h
    obtain ⟨h3, nf3, hb3⟩ := hb_on_at h3
    refine hs_callVi (μ' := mX4_problemOfHolder) (mc := 0) (ms := 0) (rc := 0) (rs := 0) (As := []) (rest := []) (ci := 4) dX4_problemOfInstance_9 lmX4_71 okX4_problemOfHolder rfl (by decide) rfl (Nat.le_of_ble_eq_true rfl) rfl hb3 (c_X4_problemOfHolder h3) ?_
    refine hs_goto (tgt := 16) dX4_problemOfInstance_12 (by decide) ?_
    obtain rfl := Option.some.inj h
    exact hs_ireturn dX4_problemOfInstance_16 rfl (by rfl) (fun _ => rfl)
def mX4_problemOfArray : hb_Y := (yX4_problemOfArray, cX4_problemOfArray, 2, (some .int), [], false)
set_option maxHeartbeats 4000000 in
set_option maxRecDepth 20000 in
theorem c_X4_problemOfArray {G : hb_G} {l : Launch} {z : Bool} {x0 : Nat} {x1 : Int32} {σ : hb_M} {r : (Int32 × hb_M)} (h : f_X4_problemOfArray x0 x1 σ = some r) : hb_Call G l z 4 0 0 mX4_problemOfArray [.ref x0, .int x1] σ (.inl (some (.int r.1)), r.2) := by
  refine hb_met (by decide) (Nat.le_of_ble_eq_true rfl) ?_
  unfold f_X4_problemOfArray at h
  refine hs_iload_n dX4_problemOfArray_0 1 rfl ?_
  refine hs_if_lt (tgt := 17) dX4_problemOfArray_1 (by decide) (fun hc1 => ?_) (fun hc1 => ?_)
  · rw [if_pos hc1] at h
    refine hs_iconst (v := (2 : Int32)) dX4_problemOfArray_17 (by decide) ?_
    obtain rfl := Option.some.inj h
    exact hs_ireturn dX4_problemOfArray_18 rfl (by rfl) (fun _ => rfl)
  · rw [if_neg hc1] at h
    refine hs_iload_n dX4_problemOfArray_4 1 rfl ?_
    refine hs_bipush (v := (8 : Int32)) dX4_problemOfArray_5 (by decide) ?_
    refine hs_icmp_gt (tgt := 17) dX4_problemOfArray_7 (by decide) (fun hc2 => ?_) (fun hc2 => ?_)
    · rw [if_pos hc2] at h
      refine hs_iconst (v := (2 : Int32)) dX4_problemOfArray_17 (by decide) ?_
      obtain rfl := Option.some.inj h
      exact hs_ireturn dX4_problemOfArray_18 rfl (by rfl) (fun _ => rfl)
    · rw [if_neg hc2] at h
      refine hs_aload_n dX4_problemOfArray_10 0 rfl ?_
      obtain ⟨r3, h3, h⟩ := hb_bind h
      obtain ⟨h3, nf3, hb3⟩ := hb_on_at h3
      refine hs_callVi (μ' := mX4_problemOfHolder) (mc := 0) (ms := 0) (rc := 0) (rs := 0) (As := []) (rest := []) (ci := 4) dX4_problemOfArray_11 lmX4_71 okX4_problemOfHolder rfl (by decide) rfl (Nat.le_of_ble_eq_true rfl) rfl hb3 (c_X4_problemOfHolder h3) ?_
      refine hs_goto (tgt := 18) dX4_problemOfArray_14 (by decide) ?_
      obtain rfl := Option.some.inj h
      exact hs_ireturn dX4_problemOfArray_18 rfl (by rfl) (fun _ => rfl)
def mX4_problemOfTarget : hb_Y := (yX4_problemOfTarget, cX4_problemOfTarget, 5, (some .int), [], false)
set_option maxHeartbeats 4000000 in
set_option maxRecDepth 20000 in
theorem c_X4_problemOfTarget_b27 {G : hb_G} {l : Launch} {z : Bool}  {s0 : Int32} {σ : hb_M} {r : (Int32 × hb_M)} (h : f_X4_problemOfTarget_b27 s0 σ = some r) : hb_T G l z mX4_problemOfTarget 2 0 0 27 [] [.int s0] σ (.inl (some (.int r.1)), r.2) := by
  unfold f_X4_problemOfTarget_b27 at h
  refine hs_istore (lv' := [(4, .int s0)]) dX4_problemOfTarget_27 (by decide) rfl ?_
  refine hs_iload dX4_problemOfTarget_29 0 rfl ?_
  refine hs_if_eq (tgt := 38) dX4_problemOfTarget_31 (by decide) (fun hc1 => ?_) (fun hc1 => ?_)
  · rw [if_pos hc1] at h
    refine hs_iconst (v := (1 : Int32)) dX4_problemOfTarget_38 (by decide) ?_
    obtain rfl := Option.some.inj h
    exact hs_ireturn dX4_problemOfTarget_39 rfl (by rfl) (fun _ => rfl)
  · rw [if_neg hc1] at h
    refine hs_iconst (v := (0 : Int32)) dX4_problemOfTarget_34 (by decide) ?_
    refine hs_goto (tgt := 39) dX4_problemOfTarget_35 (by decide) ?_
    obtain rfl := Option.some.inj h
    exact hs_ireturn dX4_problemOfTarget_39 rfl (by rfl) (fun _ => rfl)
set_option maxHeartbeats 4000000 in
set_option maxRecDepth 20000 in
theorem c_X4_problemOfTarget_b26 {G : hb_G} {l : Launch} {z : Bool}  {σ : hb_M} {r : (Int32 × hb_M)} (h : f_X4_problemOfTarget_b26 σ = some r) : hb_T G l z mX4_problemOfTarget 2 0 0 26 [] [] σ (.inl (some (.int r.1)), r.2) := by
  unfold f_X4_problemOfTarget_b26 at h
  refine hs_iconst (v := (0 : Int32)) dX4_problemOfTarget_26 (by decide) ?_
  refine hs_sub (lv' := []) [] rfl ?_
  exact c_X4_problemOfTarget_b27 h
set_option maxHeartbeats 4000000 in
set_option maxRecDepth 20000 in
theorem c_X4_problemOfTarget_b22 {G : hb_G} {l : Launch} {z : Bool}  {σ : hb_M} {r : (Int32 × hb_M)} (h : f_X4_problemOfTarget_b22 σ = some r) : hb_T G l z mX4_problemOfTarget 2 0 0 22 [] [] σ (.inl (some (.int r.1)), r.2) := by
  unfold f_X4_problemOfTarget_b22 at h
  refine hs_iconst (v := (1 : Int32)) dX4_problemOfTarget_22 (by decide) ?_
  refine hs_goto (tgt := 27) dX4_problemOfTarget_23 (by decide) ?_
  refine hs_sub (lv' := []) [] rfl ?_
  exact c_X4_problemOfTarget_b27 h
set_option maxHeartbeats 4000000 in
set_option maxRecDepth 20000 in
theorem c_X4_problemOfTarget {G : hb_G} {l : Launch} {z : Bool} {x0 : Nat} {x1 : Int32} {x2 : Int32} {x3 : Int32} {σ : hb_M} {r : (Int32 × hb_M)} (h : f_X4_problemOfTarget x0 x1 x2 x3 σ = some r) : hb_Call G l z 2 0 0 mX4_problemOfTarget [.ref x0, .int x1, .int x2, .int x3] σ (.inl (some (.int r.1)), r.2) := by
  refine hb_met (by decide) (Nat.le_of_ble_eq_true rfl) ?_
  unfold f_X4_problemOfTarget at h
  refine hs_aload_n dX4_problemOfTarget_0 0 rfl ?_
  refine hs_iload_n dX4_problemOfTarget_1 1 rfl ?_
  refine hs_iload_n dX4_problemOfTarget_2 2 rfl ?_
  obtain ⟨r1, h1, h⟩ := hb_bind h
  obtain ⟨h1, nf1, hb1⟩ := hb_on_at h1
  refine hs_callVi (μ' := mX4_hasSlot) (mc := 0) (ms := 0) (rc := 0) (rs := 0) (As := [.int x1, .int x2]) (rest := []) (ci := 4) dX4_problemOfTarget_3 lmX4_78 okX4_hasSlot rfl (by decide) rfl (Nat.le_of_ble_eq_true rfl) rfl hb1 (c_X4_hasSlot h1) ?_
  refine hs_if_eq (tgt := 26) dX4_problemOfTarget_6 (by decide) (fun hc2 => ?_) (fun hc2 => ?_)
  · rw [if_pos hc2] at h
    refine hs_sub (lv' := []) [] rfl ?_
    exact c_X4_problemOfTarget_b26 h
  · rw [if_neg hc2] at h
    refine hs_iload_n dX4_problemOfTarget_9 3 rfl ?_
    refine hs_iconst (v := (-1 : Int32)) dX4_problemOfTarget_10 (by decide) ?_
    refine hs_icmp_eq (tgt := 22) dX4_problemOfTarget_11 (by decide) (fun hc3 => ?_) (fun hc3 => ?_)
    · rw [if_pos hc3] at h
      refine hs_sub (lv' := []) [] rfl ?_
      exact c_X4_problemOfTarget_b22 h
    · rw [if_neg hc3] at h
      refine hs_aload_n dX4_problemOfTarget_14 0 rfl ?_
      refine hs_iload_n dX4_problemOfTarget_15 3 rfl ?_
      obtain ⟨r4, h4, h⟩ := hb_bind h
      obtain ⟨h4, nf4, hb4⟩ := hb_on_at h4
      refine hs_callVi (μ' := mX4_hasObject) (mc := 0) (ms := 0) (rc := 0) (rs := 0) (As := [.int x3]) (rest := []) (ci := 4) dX4_problemOfTarget_16 lmX4_68 okX4_hasObject rfl (by decide) rfl (Nat.le_of_ble_eq_true rfl) rfl hb4 (c_X4_hasObject h4) ?_
      refine hs_if_eq (tgt := 26) dX4_problemOfTarget_19 (by decide) (fun hc5 => ?_) (fun hc5 => ?_)
      · rw [if_pos hc5] at h
        refine hs_sub (lv' := []) [] rfl ?_
        exact c_X4_problemOfTarget_b26 h
      · rw [if_neg hc5] at h
        refine hs_sub (lv' := []) [] rfl ?_
        exact c_X4_problemOfTarget_b22 h
def mX8_problemOf : hb_Y := (yX8_problemOf, cX8_problemOf, 3, (some .int), [], false)
theorem okX8_problemOf : hb_okS mX8_problemOf 3 := ⟨⟨hb_w 1 (by decide +kernel) (by decide +kernel), hb_w 727 (by decide +kernel) (by decide +kernel), ⟨by decide +kernel, by decide +kernel, by decide +kernel⟩, by decide⟩, hb_w 726 (by decide +kernel) (by decide +kernel)⟩
set_option maxHeartbeats 4000000 in
set_option maxRecDepth 20000 in
theorem c_X8_problemOf {G : hb_G} {l : Launch} {z : Bool} {x0 : Int32} {x1 : Int32} {x2 : Int32} {σ : hb_M} {r : (Int32 × hb_M)} (h : f_X8_problemOf x0 x1 x2 σ = some r) : hb_Call G l z 0 0 0 mX8_problemOf [.int x0, .int x1, .int x2] σ (.inl (some (.int r.1)), r.2) := by
  refine hb_met (by decide) (Nat.le_of_ble_eq_true rfl) ?_
  unfold f_X8_problemOf at h
  refine hs_iload_n dX8_problemOf_0 0 rfl ?_
  refine hs_if_ne (tgt := 6) dX8_problemOf_1 (by decide) (fun hc1 => ?_) (fun hc1 => ?_)
  · rw [if_neg hc1] at h
    refine hs_iload_n dX8_problemOf_6 1 rfl ?_
    refine hs_if_lt (tgt := 19) dX8_problemOf_7 (by decide) (fun hc2 => ?_) (fun hc2 => ?_)
    · rw [if_pos hc2] at h
      refine hs_iconst (v := (2 : Int32)) dX8_problemOf_19 (by decide) ?_
      obtain rfl := Option.some.inj h
      exact hs_ireturn dX8_problemOf_20 rfl (by rfl) (fun _ => rfl)
    · rw [if_neg hc2] at h
      refine hs_iload_n dX8_problemOf_10 1 rfl ?_
      refine hs_iload_n dX8_problemOf_11 2 rfl ?_
      refine hs_icmp_gt (tgt := 19) dX8_problemOf_12 (by decide) (fun hc3 => ?_) (fun hc3 => ?_)
      · rw [if_pos hc3] at h
        refine hs_iconst (v := (2 : Int32)) dX8_problemOf_19 (by decide) ?_
        obtain rfl := Option.some.inj h
        exact hs_ireturn dX8_problemOf_20 rfl (by rfl) (fun _ => rfl)
      · rw [if_neg hc3] at h
        refine hs_iconst (v := (0 : Int32)) dX8_problemOf_15 (by decide) ?_
        refine hs_goto (tgt := 20) dX8_problemOf_16 (by decide) ?_
        obtain rfl := Option.some.inj h
        exact hs_ireturn dX8_problemOf_20 rfl (by rfl) (fun _ => rfl)
  · rw [if_pos hc1] at h
    refine hs_iconst (v := (1 : Int32)) dX8_problemOf_4 (by decide) ?_
    obtain rfl := Option.some.inj h
    exact hs_ireturn dX8_problemOf_5 rfl (by rfl) (fun _ => rfl)
def mX4_problemOfLength : hb_Y := (yX4_problemOfLength, cX4_problemOfLength, 4, (some .int), [], false)
set_option maxHeartbeats 4000000 in
set_option maxRecDepth 20000 in
theorem c_X4_problemOfLength {G : hb_G} {l : Launch} {z : Bool} {x0 : Nat} {x1 : Int32} {x2 : Int32} {σ : hb_M} {r : (Int32 × hb_M)} (h : f_X4_problemOfLength x0 x1 x2 σ = some r) : hb_Call G l z 1 0 0 mX4_problemOfLength [.ref x0, .int x1, .int x2] σ (.inl (some (.int r.1)), r.2) := by
  refine hb_met (by decide) (Nat.le_of_ble_eq_true rfl) ?_
  unfold f_X4_problemOfLength at h
  refine hs_aload_n dX4_problemOfLength_0 0 rfl ?_
  refine hs_iload_n dX4_problemOfLength_1 1 rfl ?_
  obtain ⟨r1, h1, h⟩ := hb_bind h
  obtain ⟨h1, nf1, hb1⟩ := hb_on_at h1
  refine hs_callVi (μ' := mX4_hasObject) (mc := 0) (ms := 0) (rc := 0) (rs := 0) (As := [.int x1]) (rest := []) (ci := 4) dX4_problemOfLength_2 lmX4_68 okX4_hasObject rfl (by decide) rfl (Nat.le_of_ble_eq_true rfl) rfl hb1 (c_X4_hasObject h1) ?_
  refine hs_iload_n dX4_problemOfLength_5 2 rfl ?_
  refine hs_bipush (v := (8 : Int32)) dX4_problemOfLength_6 (by decide) ?_
  obtain ⟨r2, h2, h⟩ := hb_bind h
  refine hs_callSNi (μ' := mX8_problemOf) (mc := 0) (ms := 0) (rc := 0) (rs := 0) (As := [.int r1.1, .int x2, .int (8 : Int32)]) (rest := []) dX4_problemOfLength_8 lnX4_82 okX8_problemOf rfl (by decide) rfl (Nat.le_of_ble_eq_true rfl) (c_X8_problemOf h2) ?_
  refine hs_istore_n (lv' := [(3, .int r2.1), (0, .ref x0), (1, .int x1), (2, .int x2)]) dX4_problemOfLength_11 (by decide) rfl ?_
  refine hs_iload_n dX4_problemOfLength_12 0 rfl ?_
  refine hs_if_eq (tgt := 18) dX4_problemOfLength_13 (by decide) (fun hc3 => ?_) (fun hc3 => ?_)
  · rw [if_pos hc3] at h
    refine hs_aload_n dX4_problemOfLength_18 1 rfl ?_
    obtain ⟨r4, h4, h⟩ := hb_bind h
    refine hs_getR dX4_problemOfLength_19 lkX4_21 rfl h4 ?_
    refine hs_iload_n dX4_problemOfLength_22 2 rfl ?_
    obtain ⟨r5, h5, h⟩ := hb_bind h
    refine hs_iald dX4_problemOfLength_23 h5 ?_
    refine hs_bipush (v := (10 : Int32)) dX4_problemOfLength_24 (by decide) ?_
    refine hs_icmp_ne (tgt := 33) dX4_problemOfLength_26 (by decide) (fun hc6 => ?_) (fun hc6 => ?_)
    · rw [if_neg hc6] at h
      refine hs_iconst (v := (3 : Int32)) dX4_problemOfLength_33 (by decide) ?_
      obtain rfl := Option.some.inj h
      exact hs_ireturn dX4_problemOfLength_34 rfl (by rfl) (fun _ => rfl)
    · rw [if_pos hc6] at h
      refine hs_iconst (v := (0 : Int32)) dX4_problemOfLength_29 (by decide) ?_
      refine hs_goto (tgt := 34) dX4_problemOfLength_30 (by decide) ?_
      obtain rfl := Option.some.inj h
      exact hs_ireturn dX4_problemOfLength_34 rfl (by rfl) (fun _ => rfl)
  · rw [if_neg hc3] at h
    refine hs_iload_n dX4_problemOfLength_16 0 rfl ?_
    obtain rfl := Option.some.inj h
    exact hs_ireturn dX4_problemOfLength_17 rfl (by rfl) (fun _ => rfl)
def mX4_problemOfRoot : hb_Y := (yX4_problemOfRoot, cX4_problemOfRoot, 3, (some .int), [], false)
theorem okX4_problemOfRoot : hb_okV mX4_problemOfRoot 2 := ⟨⟨hb_w 2 (by decide +kernel) (by decide +kernel), hb_w 724 (by decide +kernel) (by decide +kernel), ⟨by decide +kernel, by decide +kernel, by decide +kernel⟩, by decide⟩, hb_w 722 (by decide +kernel) (by decide +kernel), hb_w 723 (by decide +kernel) (by decide +kernel)⟩
set_option maxHeartbeats 4000000 in
set_option maxRecDepth 20000 in
theorem c_X4_problemOfRoot {G : hb_G} {l : Launch} {z : Bool} {x0 : Nat} {x1 : Int32} {x2 : Int32} {σ : hb_M} {r : (Int32 × hb_M)} (h : f_X4_problemOfRoot x0 x1 x2 σ = some r) : hb_Call G l z 1 0 0 mX4_problemOfRoot [.ref x0, .int x1, .int x2] σ (.inl (some (.int r.1)), r.2) := by
  refine hb_met (by decide) (Nat.le_of_ble_eq_true rfl) ?_
  unfold f_X4_problemOfRoot at h
  refine hs_aload_n dX4_problemOfRoot_0 0 rfl ?_
  refine hs_iload_n dX4_problemOfRoot_1 1 rfl ?_
  obtain ⟨r1, h1, h⟩ := hb_bind h
  obtain ⟨h1, nf1, hb1⟩ := hb_on_at h1
  refine hs_callVi (μ' := mX4_hasObject) (mc := 0) (ms := 0) (rc := 0) (rs := 0) (As := [.int x1]) (rest := []) (ci := 4) dX4_problemOfRoot_2 lmX4_68 okX4_hasObject rfl (by decide) rfl (Nat.le_of_ble_eq_true rfl) rfl hb1 (c_X4_hasObject h1) ?_
  refine hs_iload_n dX4_problemOfRoot_5 2 rfl ?_
  refine hs_iconst (v := (2 : Int32)) dX4_problemOfRoot_6 (by decide) ?_
  obtain ⟨r2, h2, h⟩ := hb_bind h
  refine hs_callSNi (μ' := mX8_problemOf) (mc := 0) (ms := 0) (rc := 0) (rs := 0) (As := [.int r1.1, .int x2, .int (2 : Int32)]) (rest := []) dX4_problemOfRoot_7 lnX4_82 okX8_problemOf rfl (by decide) rfl (Nat.le_of_ble_eq_true rfl) (c_X8_problemOf h2) ?_
  obtain rfl := Option.some.inj h
  exact hs_ireturn dX4_problemOfRoot_10 rfl (by rfl) (fun _ => rfl)
def mX4_problemOfUnrooting : hb_Y := (yX4_problemOfUnrooting, cX4_problemOfUnrooting, 4, (some .int), [], false)
set_option maxHeartbeats 4000000 in
set_option maxRecDepth 20000 in
theorem c_X4_problemOfUnrooting {G : hb_G} {l : Launch} {z : Bool} {x0 : Nat} {x1 : Int32} {x2 : Int32} {σ : hb_M} {r : (Int32 × hb_M)} (h : f_X4_problemOfUnrooting x0 x1 x2 σ = some r) : hb_Call G l z 2 0 0 mX4_problemOfUnrooting [.ref x0, .int x1, .int x2] σ (.inl (some (.int r.1)), r.2) := by
  refine hb_met (by decide) (Nat.le_of_ble_eq_true rfl) ?_
  unfold f_X4_problemOfUnrooting at h
  refine hs_aload_n dX4_problemOfUnrooting_0 0 rfl ?_
  refine hs_iload_n dX4_problemOfUnrooting_1 1 rfl ?_
  refine hs_iload_n dX4_problemOfUnrooting_2 2 rfl ?_
  obtain ⟨r1, h1, h⟩ := hb_bind h
  obtain ⟨h1, nf1, hb1⟩ := hb_on_at h1
  refine hs_callVi (μ' := mX4_problemOfRoot) (mc := 0) (ms := 0) (rc := 0) (rs := 0) (As := [.int x1, .int x2]) (rest := []) (ci := 4) dX4_problemOfUnrooting_3 lmX4_86 okX4_problemOfRoot rfl (by decide) rfl (Nat.le_of_ble_eq_true rfl) rfl hb1 (c_X4_problemOfRoot h1) ?_
  refine hs_istore_n (lv' := [(3, .int r1.1), (0, .ref x0), (1, .int x1), (2, .int x2)]) dX4_problemOfUnrooting_6 (by decide) rfl ?_
  refine hs_iload_n dX4_problemOfUnrooting_7 0 rfl ?_
  refine hs_if_eq (tgt := 13) dX4_problemOfUnrooting_8 (by decide) (fun hc2 => ?_) (fun hc2 => ?_)
  · rw [if_pos hc2] at h
    refine hs_aload_n dX4_problemOfUnrooting_13 1 rfl ?_
    obtain ⟨r3, h3, h⟩ := hb_bind h
    refine hs_getR dX4_problemOfUnrooting_14 lkX4_36 rfl h3 ?_
    refine hs_iload_n dX4_problemOfUnrooting_17 2 rfl ?_
    obtain ⟨r4, h4, h⟩ := hb_bind h
    refine hs_iald dX4_problemOfUnrooting_18 h4 ?_
    refine hs_iload_n dX4_problemOfUnrooting_19 3 rfl ?_
    refine hs_ishr dX4_problemOfUnrooting_20 ?_
    refine hs_iconst (v := (1 : Int32)) dX4_problemOfUnrooting_21 (by decide) ?_
    refine hs_iand dX4_problemOfUnrooting_22 ?_
    refine hs_iconst (v := (1 : Int32)) dX4_problemOfUnrooting_23 (by decide) ?_
    refine hs_icmp_ne (tgt := 31) dX4_problemOfUnrooting_24 (by decide) (fun hc5 => ?_) (fun hc5 => ?_)
    · rw [if_neg hc5] at h
      refine hs_iconst (v := (3 : Int32)) dX4_problemOfUnrooting_31 (by decide) ?_
      obtain rfl := Option.some.inj h
      exact hs_ireturn dX4_problemOfUnrooting_32 rfl (by rfl) (fun _ => rfl)
    · rw [if_pos hc5] at h
      refine hs_iconst (v := (0 : Int32)) dX4_problemOfUnrooting_27 (by decide) ?_
      refine hs_goto (tgt := 32) dX4_problemOfUnrooting_28 (by decide) ?_
      obtain rfl := Option.some.inj h
      exact hs_ireturn dX4_problemOfUnrooting_32 rfl (by rfl) (fun _ => rfl)
  · rw [if_neg hc2] at h
    refine hs_iload_n dX4_problemOfUnrooting_11 0 rfl ?_
    obtain rfl := Option.some.inj h
    exact hs_ireturn dX4_problemOfUnrooting_12 rfl (by rfl) (fun _ => rfl)
def mX4_addClass : hb_Y := (yX4_addClass, cX4_addClass, 4, (some .int), [], false)
set_option maxHeartbeats 4000000 in
set_option maxRecDepth 20000 in
theorem c_X4_addClass {G : hb_G} {l : Launch} {z : Bool} {x0 : Nat} {x1 : Int32} {x2 : Int32} {x3 : Int32} {σ : hb_M} {r : (Int32 × hb_M)} (h : f_X4_addClass x0 x1 x2 x3 σ = some r) : hb_Call G l z 1 0 0 mX4_addClass [.ref x0, .int x1, .int x2, .int x3] σ (.inl (some (.int r.1)), r.2) := by
  refine hb_met (by decide) (Nat.le_of_ble_eq_true rfl) ?_
  unfold f_X4_addClass at h
  refine hs_aload_n dX4_addClass_0 0 rfl ?_
  obtain ⟨r1, h1, h⟩ := hb_bind h
  refine hs_getI dX4_addClass_1 lkX4_42 rfl h1 ?_
  refine hs_bipush (v := (10 : Int32)) dX4_addClass_4 (by decide) ?_
  refine hs_icmp_ge (tgt := 17) dX4_addClass_6 (by decide) (fun hc2 => ?_) (fun hc2 => ?_)
  · rw [if_pos hc2] at h
    refine hs_iconst (v := (-1 : Int32)) dX4_addClass_17 (by decide) ?_
    obtain rfl := Option.some.inj h
    exact hs_ireturn dX4_addClass_18 rfl (by rfl) (fun _ => rfl)
  · rw [if_neg hc2] at h
    refine hs_aload_n dX4_addClass_9 0 rfl ?_
    refine hs_iload_n dX4_addClass_10 1 rfl ?_
    obtain ⟨r3, h3, h⟩ := hb_bind h
    obtain ⟨h3, nf3, hb3⟩ := hb_on_at h3
    refine hs_callVi (μ' := mX4_hasClass) (mc := 0) (ms := 0) (rc := 0) (rs := 0) (As := [.int x1]) (rest := []) (ci := 4) dX4_addClass_11 lmX4_64 okX4_hasClass rfl (by decide) rfl (Nat.le_of_ble_eq_true rfl) rfl hb3 (c_X4_hasClass h3) ?_
    refine hs_if_ne (tgt := 19) dX4_addClass_14 (by decide) (fun hc4 => ?_) (fun hc4 => ?_)
    · rw [if_neg hc4] at h
      refine hs_aload_n dX4_addClass_19 0 rfl ?_
      obtain ⟨r5, h5, h⟩ := hb_bind h
      refine hs_getR dX4_addClass_20 lkX4_9 rfl h5 ?_
      refine hs_aload_n dX4_addClass_23 0 rfl ?_
      obtain ⟨r6, h6, h⟩ := hb_bind h
      refine hs_getI dX4_addClass_24 lkX4_42 rfl h6 ?_
      refine hs_iload_n dX4_addClass_27 1 rfl ?_
      obtain ⟨r7, h7, h⟩ := hb_bind h
      refine hs_iast dX4_addClass_28 h7 ?_
      refine hs_aload_n dX4_addClass_29 0 rfl ?_
      obtain ⟨r8, h8, h⟩ := hb_bind h
      refine hs_getR dX4_addClass_30 lkX4_15 rfl h8 ?_
      refine hs_aload_n dX4_addClass_33 0 rfl ?_
      obtain ⟨r9, h9, h⟩ := hb_bind h
      refine hs_getI dX4_addClass_34 lkX4_42 rfl h9 ?_
      refine hs_aload_n dX4_addClass_37 0 rfl ?_
      obtain ⟨r10, h10, h⟩ := hb_bind h
      refine hs_getR dX4_addClass_38 lkX4_15 rfl h10 ?_
      refine hs_iload_n dX4_addClass_41 1 rfl ?_
      obtain ⟨r11, h11, h⟩ := hb_bind h
      refine hs_iald dX4_addClass_42 h11 ?_
      refine hs_iload_n dX4_addClass_43 2 rfl ?_
      refine hs_iadd dX4_addClass_44 ?_
      obtain ⟨r12, h12, h⟩ := hb_bind h
      refine hs_iast dX4_addClass_45 h12 ?_
      refine hs_aload_n dX4_addClass_46 0 rfl ?_
      obtain ⟨r13, h13, h⟩ := hb_bind h
      refine hs_getR dX4_addClass_47 lkX4_18 rfl h13 ?_
      refine hs_aload_n dX4_addClass_50 0 rfl ?_
      obtain ⟨r14, h14, h⟩ := hb_bind h
      refine hs_getI dX4_addClass_51 lkX4_42 rfl h14 ?_
      refine hs_aload_n dX4_addClass_54 0 rfl ?_
      obtain ⟨r15, h15, h⟩ := hb_bind h
      refine hs_getR dX4_addClass_55 lkX4_18 rfl h15 ?_
      refine hs_iload_n dX4_addClass_58 1 rfl ?_
      obtain ⟨r16, h16, h⟩ := hb_bind h
      refine hs_iald dX4_addClass_59 h16 ?_
      refine hs_iload_n dX4_addClass_60 3 rfl ?_
      refine hs_iadd dX4_addClass_61 ?_
      obtain ⟨r17, h17, h⟩ := hb_bind h
      refine hs_iast dX4_addClass_62 h17 ?_
      refine hs_aload_n dX4_addClass_63 0 rfl ?_
      refine hs_dup dX4_addClass_64 rfl ?_
      obtain ⟨r18, h18, h⟩ := hb_bind h
      refine hs_getI dX4_addClass_65 lkX4_42 rfl h18 ?_
      refine hs_iconst (v := (1 : Int32)) dX4_addClass_68 (by decide) ?_
      refine hs_iadd dX4_addClass_69 ?_
      obtain ⟨r19, h19, h⟩ := hb_bind h
      refine hs_putI dX4_addClass_70 lpX4_addClass_42 rfl h19 ?_
      refine hs_aload_n dX4_addClass_73 0 rfl ?_
      refine hs_dup dX4_addClass_74 rfl ?_
      obtain ⟨r20, h20, h⟩ := hb_bind h
      refine hs_getI dX4_addClass_75 lkX4_61 rfl h20 ?_
      refine hs_iconst (v := (1 : Int32)) dX4_addClass_78 (by decide) ?_
      refine hs_iadd dX4_addClass_79 ?_
      obtain ⟨r21, h21, h⟩ := hb_bind h
      refine hs_putI dX4_addClass_80 lpX4_addClass_61 rfl h21 ?_
      refine hs_aload_n dX4_addClass_83 0 rfl ?_
      obtain ⟨r22, h22, h⟩ := hb_bind h
      refine hs_getI dX4_addClass_84 lkX4_42 rfl h22 ?_
      refine hs_iconst (v := (1 : Int32)) dX4_addClass_87 (by decide) ?_
      refine hs_isub dX4_addClass_88 ?_
      obtain rfl := Option.some.inj h
      exact hs_ireturn dX4_addClass_89 rfl (by rfl) (fun _ => rfl)
    · rw [if_pos hc4] at h
      refine hs_iconst (v := (-1 : Int32)) dX4_addClass_17 (by decide) ?_
      obtain rfl := Option.some.inj h
      exact hs_ireturn dX4_addClass_18 rfl (by rfl) (fun _ => rfl)
def mX4_roundedUp : hb_Y := (yX4_roundedUp, cX4_roundedUp, 1, (some .int), [], false)
theorem okX4_roundedUp : hb_okS mX4_roundedUp 1 := ⟨⟨hb_w 2 (by decide +kernel) (by decide +kernel), hb_w 747 (by decide +kernel) (by decide +kernel), ⟨by decide +kernel, by decide +kernel, by decide +kernel⟩, by decide⟩, hb_w 746 (by decide +kernel) (by decide +kernel)⟩
set_option maxHeartbeats 4000000 in
set_option maxRecDepth 20000 in
theorem c_X4_roundedUp {G : hb_G} {l : Launch} {z : Bool} {x0 : Int32} {σ : hb_M} {r : (Int32 × hb_M)} (h : f_X4_roundedUp x0 σ = some r) : hb_Call G l z 0 0 0 mX4_roundedUp [.int x0] σ (.inl (some (.int r.1)), r.2) := by
  refine hb_met (by decide) (Nat.le_of_ble_eq_true rfl) ?_
  unfold f_X4_roundedUp at h
  refine hs_iload_n dX4_roundedUp_0 0 rfl ?_
  refine hs_bipush (v := (7 : Int32)) dX4_roundedUp_1 (by decide) ?_
  refine hs_iadd dX4_roundedUp_3 ?_
  refine hs_bipush (v := (8 : Int32)) dX4_roundedUp_4 (by decide) ?_
  refine hs_idiv dX4_roundedUp_6 (by decide) ?_
  refine hs_bipush (v := (8 : Int32)) dX4_roundedUp_7 (by decide) ?_
  refine hs_imul dX4_roundedUp_9 ?_
  obtain rfl := Option.some.inj h
  exact hs_ireturn dX4_roundedUp_10 rfl (by rfl) (fun _ => rfl)
def mX4_sizeOfInstance : hb_Y := (yX4_sizeOfInstance, cX4_sizeOfInstance, 2, (some .int), [], false)
theorem okX4_sizeOfInstance : hb_okV mX4_sizeOfInstance 1 := ⟨⟨hb_w 2 (by decide +kernel) (by decide +kernel), hb_w 744 (by decide +kernel) (by decide +kernel), ⟨by decide +kernel, by decide +kernel, by decide +kernel⟩, by decide⟩, hb_w 743 (by decide +kernel) (by decide +kernel), hb_wp (q := (yX4_sizeOfInstance, 13)) 22 (by decide +kernel) (by decide +kernel)⟩
set_option maxHeartbeats 4000000 in
set_option maxRecDepth 20000 in
theorem c_X4_sizeOfInstance {G : hb_G} {l : Launch} {z : Bool} {x0 : Nat} {x1 : Int32} {σ : hb_M} {r : (Int32 × hb_M)} (h : f_X4_sizeOfInstance x0 x1 σ = some r) : hb_Call G l z 1 0 0 mX4_sizeOfInstance [.ref x0, .int x1] σ (.inl (some (.int r.1)), r.2) := by
  refine hb_met (by decide) (Nat.le_of_ble_eq_true rfl) ?_
  unfold f_X4_sizeOfInstance at h
  refine hs_bipush (v := (12 : Int32)) dX4_sizeOfInstance_0 (by decide) ?_
  refine hs_iconst (v := (4 : Int32)) dX4_sizeOfInstance_2 (by decide) ?_
  refine hs_aload_n dX4_sizeOfInstance_3 0 rfl ?_
  obtain ⟨r1, h1, h⟩ := hb_bind h
  refine hs_getR dX4_sizeOfInstance_4 lkX4_15 rfl h1 ?_
  refine hs_iload_n dX4_sizeOfInstance_7 1 rfl ?_
  obtain ⟨r2, h2, h⟩ := hb_bind h
  refine hs_iald dX4_sizeOfInstance_8 h2 ?_
  refine hs_imul dX4_sizeOfInstance_9 ?_
  refine hs_iadd dX4_sizeOfInstance_10 ?_
  refine hs_aload_n dX4_sizeOfInstance_11 0 rfl ?_
  obtain ⟨r3, h3, h⟩ := hb_bind h
  refine hs_getR dX4_sizeOfInstance_12 lkX4_18 rfl h3 ?_
  refine hs_iload_n dX4_sizeOfInstance_15 1 rfl ?_
  obtain ⟨r4, h4, h⟩ := hb_bind h
  refine hs_iald dX4_sizeOfInstance_16 h4 ?_
  refine hs_iadd dX4_sizeOfInstance_17 ?_
  obtain ⟨r5, h5, h⟩ := hb_bind h
  refine hs_callSi (μ' := mX4_roundedUp) (mc := 0) (ms := 0) (rc := 0) (rs := 0) (As := [.int (((12 : Int32) + ((4 : Int32) * r2)) + r4)]) (rest := []) dX4_sizeOfInstance_18 lmX4_134 okX4_roundedUp rfl (by decide) rfl (Nat.le_of_ble_eq_true rfl) (c_X4_roundedUp h5) ?_
  obtain rfl := Option.some.inj h
  exact hs_ireturn dX4_sizeOfInstance_21 rfl (by rfl) (fun _ => rfl)
def mX4_lowestFree : hb_Y := (yX4_lowestFree, cX4_lowestFree, 2, (some .int), [], false)
theorem okX4_lowestFree : hb_okV mX4_lowestFree 0 := ⟨⟨hb_w 2 (by decide +kernel) (by decide +kernel), hb_w 755 (by decide +kernel) (by decide +kernel), ⟨by decide +kernel, by decide +kernel, by decide +kernel⟩, by decide⟩, hb_w 754 (by decide +kernel) (by decide +kernel), hb_wp (q := (yX4_lowestFree, 13)) 24 (by decide +kernel) (by decide +kernel)⟩
set_option maxHeartbeats 4000000 in
set_option maxRecDepth 20000 in
theorem c_X4_lowestFree_b2 {G : hb_G} {l : Launch} {z : Bool} : ∀ (n : Nat) (x0 : Nat) (x1 : Int32) (σ : hb_M) (r : (Int32 × hb_M)), f_X4_lowestFree_b2 n x0 x1 σ = some r → hb_T G l z mX4_lowestFree 0 0 0 2 [(0, .ref x0), (1, .int x1)] [] σ (.inl (some (.int r.1)), r.2) := by
  intro n
  induction n with
  | zero =>
    intro x0 x1 σ r h
    cases h
  | succ n ih =>
    intro x0 x1 σ r h
    rw [f_X4_lowestFree_b2] at h
    refine hs_iload_n dX4_lowestFree_2 1 rfl ?_
    refine hs_bipush (v := (40 : Int32)) dX4_lowestFree_3 (by decide) ?_
    refine hs_icmp_ge (tgt := 26) dX4_lowestFree_5 (by decide) (fun hc1 => ?_) (fun hc1 => ?_)
    · rw [if_pos hc1] at h
      refine hs_iconst (v := (-1 : Int32)) dX4_lowestFree_26 (by decide) ?_
      obtain rfl := Option.some.inj h
      exact hs_ireturn dX4_lowestFree_27 rfl (by rfl) (fun _ => rfl)
    · rw [if_neg hc1] at h
      refine hs_aload_n dX4_lowestFree_8 0 rfl ?_
      obtain ⟨r2, h2, h⟩ := hb_bind h
      refine hs_getR dX4_lowestFree_9 lkX4_21 rfl h2 ?_
      refine hs_iload_n dX4_lowestFree_12 1 rfl ?_
      obtain ⟨r3, h3, h⟩ := hb_bind h
      refine hs_iald dX4_lowestFree_13 h3 ?_
      refine hs_iconst (v := (-1 : Int32)) dX4_lowestFree_14 (by decide) ?_
      refine hs_icmp_ne (tgt := 20) dX4_lowestFree_15 (by decide) (fun hc4 => ?_) (fun hc4 => ?_)
      · rw [if_neg hc4] at h
        refine hs_iinc2 (k := (1 : Int32)) (lv' := [(1, .int (x1 + (1 : Int32))), (0, .ref x0)]) dX4_lowestFree_20 (by decide) 1 rfl (by decide) rfl ?_
        refine hs_goto (tgt := 2) dX4_lowestFree_23 (by decide) ?_
        refine hs_sub (lv' := [(0, .ref x0), (1, .int (x1 + (1 : Int32)))]) [1, 0] rfl ?_
        exact ih _ _ _ _ h
      · rw [if_pos hc4] at h
        refine hs_iload_n dX4_lowestFree_18 1 rfl ?_
        obtain rfl := Option.some.inj h
        exact hs_ireturn dX4_lowestFree_19 rfl (by rfl) (fun _ => rfl)
set_option maxHeartbeats 4000000 in
set_option maxRecDepth 20000 in
theorem c_X4_lowestFree {G : hb_G} {l : Launch} {z : Bool} {x0 : Nat} {σ : hb_M} {r : (Int32 × hb_M)} (h : f_X4_lowestFree x0 σ = some r) : hb_Call G l z 0 0 0 mX4_lowestFree [.ref x0] σ (.inl (some (.int r.1)), r.2) := by
  refine hb_met (by decide) (Nat.le_of_ble_eq_true rfl) ?_
  unfold f_X4_lowestFree at h
  refine hs_iconst (v := (0 : Int32)) dX4_lowestFree_0 (by decide) ?_
  refine hs_istore_n (lv' := [(1, .int (0 : Int32)), (0, .ref x0)]) dX4_lowestFree_1 (by decide) rfl ?_
  refine hs_sub (lv' := [(0, .ref x0), (1, .int (0 : Int32))]) [1, 0] rfl ?_
  exact c_X4_lowestFree_b2 hb_FU _ _ _ _ h
def mX4_emptySlotsFrom : hb_Y := (yX4_emptySlotsFrom, cX4_emptySlotsFrom, 4, none, [], false)
theorem okX4_emptySlotsFrom : hb_okV mX4_emptySlotsFrom 2 := ⟨⟨hb_w 2 (by decide +kernel) (by decide +kernel), hb_w 446 (by decide +kernel) (by decide +kernel), ⟨by decide +kernel, by decide +kernel, by decide +kernel⟩, by decide⟩, hb_w 445 (by decide +kernel) (by decide +kernel), hb_wp (q := (yX4_emptySlotsFrom, 13)) 9 (by decide +kernel) (by decide +kernel)⟩
set_option maxHeartbeats 4000000 in
set_option maxRecDepth 20000 in
theorem c_X4_emptySlotsFrom_b2 {G : hb_G} {l : Launch} {z : Bool} : ∀ (n : Nat) (x0 : Nat) (x1 : Int32) (x3 : Int32) (σ : hb_M) (r : hb_M), f_X4_emptySlotsFrom_b2 n x0 x1 x3 σ = some r → hb_T G l z mX4_emptySlotsFrom 0 0 0 2 [(0, .ref x0), (1, .int x1), (3, .int x3)] [] σ (.inl none, r) := by
  intro n
  induction n with
  | zero =>
    intro x0 x1 x3 σ r h
    cases h
  | succ n ih =>
    intro x0 x1 x3 σ r h
    rw [f_X4_emptySlotsFrom_b2] at h
    refine hs_iload_n dX4_emptySlotsFrom_2 2 rfl ?_
    refine hs_bipush (v := (8 : Int32)) dX4_emptySlotsFrom_3 (by decide) ?_
    refine hs_icmp_ge (tgt := 26) dX4_emptySlotsFrom_5 (by decide) (fun hc1 => ?_) (fun hc1 => ?_)
    · rw [if_pos hc1] at h
      obtain rfl := Option.some.inj h
      exact hs_return dX4_emptySlotsFrom_26 rfl (fun _ => rfl)
    · rw [if_neg hc1] at h
      refine hs_aload_n dX4_emptySlotsFrom_8 0 rfl ?_
      obtain ⟨r2, h2, h⟩ := hb_bind h
      refine hs_getR dX4_emptySlotsFrom_9 lkX4_39 rfl h2 ?_
      refine hs_iload_n dX4_emptySlotsFrom_12 1 rfl ?_
      refine hs_bipush (v := (8 : Int32)) dX4_emptySlotsFrom_13 (by decide) ?_
      refine hs_imul dX4_emptySlotsFrom_15 ?_
      refine hs_iload_n dX4_emptySlotsFrom_16 2 rfl ?_
      refine hs_iadd dX4_emptySlotsFrom_17 ?_
      refine hs_iconst (v := (-1 : Int32)) dX4_emptySlotsFrom_18 (by decide) ?_
      obtain ⟨r3, h3, h⟩ := hb_bind h
      refine hs_iast dX4_emptySlotsFrom_19 h3 ?_
      refine hs_iinc2 (k := (1 : Int32)) (lv' := [(3, .int (x3 + (1 : Int32))), (0, .ref x0), (1, .int x1)]) dX4_emptySlotsFrom_20 (by decide) 2 rfl (by decide) rfl ?_
      refine hs_goto (tgt := 2) dX4_emptySlotsFrom_23 (by decide) ?_
      refine hs_sub (lv' := [(0, .ref x0), (1, .int x1), (3, .int (x3 + (1 : Int32)))]) [1, 2, 0] rfl ?_
      exact ih _ _ _ _ _ h
set_option maxHeartbeats 4000000 in
set_option maxRecDepth 20000 in
theorem c_X4_emptySlotsFrom {G : hb_G} {l : Launch} {z : Bool} {x0 : Nat} {x1 : Int32} {x2 : Int32} {σ : hb_M} {r : hb_M} (h : f_X4_emptySlotsFrom x0 x1 x2 σ = some r) : hb_Call G l z 0 0 0 mX4_emptySlotsFrom [.ref x0, .int x1, .int x2] σ (.inl none, r) := by
  refine hb_met (by decide) (Nat.le_of_ble_eq_true rfl) ?_
  unfold f_X4_emptySlotsFrom at h
  refine hs_iload_n dX4_emptySlotsFrom_0 2 rfl ?_
  refine hs_istore_n (lv' := [(3, .int x2), (0, .ref x0), (1, .int x1), (2, .int x2)]) dX4_emptySlotsFrom_1 (by decide) rfl ?_
  refine hs_sub (lv' := [(0, .ref x0), (1, .int x1), (3, .int x2)]) [1, 2, 0] rfl ?_
  exact c_X4_emptySlotsFrom_b2 hb_FU _ _ _ _ _ h
def mX4_addObject : hb_Y := (yX4_addObject, cX4_addObject, 5, (some .int), [], false)
theorem okX4_addObject : hb_okV mX4_addObject 3 := ⟨⟨hb_w 2 (by decide +kernel) (by decide +kernel), hb_w 751 (by decide +kernel) (by decide +kernel), ⟨by decide +kernel, by decide +kernel, by decide +kernel⟩, by decide⟩, hb_w 750 (by decide +kernel) (by decide +kernel), hb_wp (q := (yX4_addObject, 13)) 23 (by decide +kernel) (by decide +kernel)⟩
set_option maxHeartbeats 4000000 in
set_option maxRecDepth 20000 in
theorem c_X4_addObject {G : hb_G} {l : Launch} {z : Bool} {x0 : Nat} {x1 : Int32} {x2 : Int32} {x3 : Int32} {σ : hb_M} {r : (Int32 × hb_M)} (h : f_X4_addObject x0 x1 x2 x3 σ = some r) : hb_Call G l z 1 0 0 mX4_addObject [.ref x0, .int x1, .int x2, .int x3] σ (.inl (some (.int r.1)), r.2) := by
  refine hb_met (by decide) (Nat.le_of_ble_eq_true rfl) ?_
  unfold f_X4_addObject at h
  refine hs_aload_n dX4_addObject_0 0 rfl ?_
  obtain ⟨r1, h1, h⟩ := hb_bind h
  obtain ⟨h1, nf1, hb1⟩ := hb_on_at h1
  refine hs_callVi (μ' := mX4_lowestFree) (mc := 0) (ms := 0) (rc := 0) (rs := 0) (As := []) (rest := []) (ci := 4) dX4_addObject_1 lmX4_101 okX4_lowestFree rfl (by decide) rfl (Nat.le_of_ble_eq_true rfl) rfl hb1 (c_X4_lowestFree h1) ?_
  refine hs_istore (lv' := [(4, .int r1.1), (0, .ref x0), (1, .int x1), (2, .int x2), (3, .int x3)]) dX4_addObject_4 (by decide) rfl ?_
  refine hs_iload dX4_addObject_6 0 rfl ?_
  refine hs_iconst (v := (-1 : Int32)) dX4_addObject_8 (by decide) ?_
  refine hs_icmp_ne (tgt := 14) dX4_addObject_9 (by decide) (fun hc2 => ?_) (fun hc2 => ?_)
  · rw [if_neg hc2] at h
    refine hs_aload_n dX4_addObject_14 1 rfl ?_
    obtain ⟨r3, h3, h⟩ := hb_bind h
    refine hs_getR dX4_addObject_15 lkX4_21 rfl h3 ?_
    refine hs_iload dX4_addObject_18 0 rfl ?_
    refine hs_iload_n dX4_addObject_20 2 rfl ?_
    obtain ⟨r4, h4, h⟩ := hb_bind h
    refine hs_iast dX4_addObject_21 h4 ?_
    refine hs_aload_n dX4_addObject_22 1 rfl ?_
    obtain ⟨r5, h5, h⟩ := hb_bind h
    refine hs_getR dX4_addObject_23 lkX4_24 rfl h5 ?_
    refine hs_iload dX4_addObject_26 0 rfl ?_
    refine hs_aload_n dX4_addObject_28 1 rfl ?_
    obtain ⟨r6, h6, h⟩ := hb_bind h
    refine hs_getI dX4_addObject_29 lkX4_52 rfl h6 ?_
    obtain ⟨r7, h7, h⟩ := hb_bind h
    refine hs_iast dX4_addObject_32 h7 ?_
    refine hs_aload_n dX4_addObject_33 1 rfl ?_
    refine hs_dup dX4_addObject_34 rfl ?_
    obtain ⟨r8, h8, h⟩ := hb_bind h
    refine hs_getI dX4_addObject_35 lkX4_52 rfl h8 ?_
    refine hs_iconst (v := (1 : Int32)) dX4_addObject_38 (by decide) ?_
    refine hs_iadd dX4_addObject_39 ?_
    obtain ⟨r9, h9, h⟩ := hb_bind h
    refine hs_putI dX4_addObject_40 lpX4_addObject_52 rfl h9 ?_
    refine hs_aload_n dX4_addObject_43 1 rfl ?_
    obtain ⟨r10, h10, h⟩ := hb_bind h
    refine hs_getR dX4_addObject_44 lkX4_27 rfl h10 ?_
    refine hs_iload dX4_addObject_47 0 rfl ?_
    refine hs_iload_n dX4_addObject_49 4 rfl ?_
    obtain ⟨r11, h11, h⟩ := hb_bind h
    refine hs_iast dX4_addObject_50 h11 ?_
    refine hs_aload_n dX4_addObject_51 1 rfl ?_
    obtain ⟨r12, h12, h⟩ := hb_bind h
    refine hs_getR dX4_addObject_52 lkX4_30 rfl h12 ?_
    refine hs_iload dX4_addObject_55 0 rfl ?_
    refine hs_iload_n dX4_addObject_57 3 rfl ?_
    obtain ⟨r13, h13, h⟩ := hb_bind h
    refine hs_iast dX4_addObject_58 h13 ?_
    refine hs_aload_n dX4_addObject_59 1 rfl ?_
    obtain ⟨r14, h14, h⟩ := hb_bind h
    refine hs_getR dX4_addObject_60 lkX4_33 rfl h14 ?_
    refine hs_iload dX4_addObject_63 0 rfl ?_
    refine hs_iconst (v := (0 : Int32)) dX4_addObject_65 (by decide) ?_
    obtain ⟨r15, h15, h⟩ := hb_bind h
    refine hs_iast dX4_addObject_66 h15 ?_
    refine hs_aload_n dX4_addObject_67 1 rfl ?_
    obtain ⟨r16, h16, h⟩ := hb_bind h
    refine hs_getR dX4_addObject_68 lkX4_36 rfl h16 ?_
    refine hs_iload dX4_addObject_71 0 rfl ?_
    refine hs_iconst (v := (0 : Int32)) dX4_addObject_73 (by decide) ?_
    obtain ⟨r17, h17, h⟩ := hb_bind h
    refine hs_iast dX4_addObject_74 h17 ?_
    refine hs_aload_n dX4_addObject_75 1 rfl ?_
    refine hs_iload dX4_addObject_76 0 rfl ?_
    refine hs_iconst (v := (0 : Int32)) dX4_addObject_78 (by decide) ?_
    obtain ⟨r18, h18, h⟩ := hb_bind h
    obtain ⟨h18, nf18, hb18⟩ := hb_on_at h18
    refine hs_callVv (μ' := mX4_emptySlotsFrom) (mc := 0) (ms := 0) (rc := 0) (rs := 0) (As := [.int r1.1, .int (0 : Int32)]) (rest := []) (ci := 4) dX4_addObject_79 lmX4_104 okX4_emptySlotsFrom rfl (by decide) rfl (Nat.le_of_ble_eq_true rfl) rfl hb18 (c_X4_emptySlotsFrom h18) ?_
    refine hs_aload_n dX4_addObject_82 1 rfl ?_
    refine hs_dup dX4_addObject_83 rfl ?_
    obtain ⟨r19, h19, h⟩ := hb_bind h
    refine hs_getI dX4_addObject_84 lkX4_61 rfl h19 ?_
    refine hs_iconst (v := (1 : Int32)) dX4_addObject_87 (by decide) ?_
    refine hs_iadd dX4_addObject_88 ?_
    obtain ⟨r20, h20, h⟩ := hb_bind h
    refine hs_putI dX4_addObject_89 lpX4_addObject_61 rfl h20 ?_
    refine hs_iload dX4_addObject_92 0 rfl ?_
    obtain rfl := Option.some.inj h
    exact hs_ireturn dX4_addObject_94 rfl (by rfl) (fun _ => rfl)
  · rw [if_pos hc2] at h
    refine hs_iconst (v := (-1 : Int32)) dX4_addObject_12 (by decide) ?_
    obtain rfl := Option.some.inj h
    exact hs_ireturn dX4_addObject_13 rfl (by rfl) (fun _ => rfl)
def mX4_addInstance : hb_Y := (yX4_addInstance, cX4_addInstance, 2, (some .int), [], false)
set_option maxHeartbeats 4000000 in
set_option maxRecDepth 20000 in
theorem c_X4_addInstance {G : hb_G} {l : Launch} {z : Bool} {x0 : Nat} {x1 : Int32} {σ : hb_M} {r : (Int32 × hb_M)} (h : f_X4_addInstance x0 x1 σ = some r) : hb_Call G l z 2 0 0 mX4_addInstance [.ref x0, .int x1] σ (.inl (some (.int r.1)), r.2) := by
  refine hb_met (by decide) (Nat.le_of_ble_eq_true rfl) ?_
  unfold f_X4_addInstance at h
  refine hs_aload_n dX4_addInstance_0 0 rfl ?_
  refine hs_iload_n dX4_addInstance_1 1 rfl ?_
  obtain ⟨r1, h1, h⟩ := hb_bind h
  obtain ⟨h1, nf1, hb1⟩ := hb_on_at h1
  refine hs_callVi (μ' := mX4_hasClass) (mc := 0) (ms := 0) (rc := 0) (rs := 0) (As := [.int x1]) (rest := []) (ci := 4) dX4_addInstance_2 lmX4_64 okX4_hasClass rfl (by decide) rfl (Nat.le_of_ble_eq_true rfl) rfl hb1 (c_X4_hasClass h1) ?_
  refine hs_if_eq (tgt := 27) dX4_addInstance_5 (by decide) (fun hc2 => ?_) (fun hc2 => ?_)
  · rw [if_pos hc2] at h
    refine hs_iconst (v := (-1 : Int32)) dX4_addInstance_27 (by decide) ?_
    obtain rfl := Option.some.inj h
    exact hs_ireturn dX4_addInstance_28 rfl (by rfl) (fun _ => rfl)
  · rw [if_neg hc2] at h
    refine hs_aload_n dX4_addInstance_8 0 rfl ?_
    refine hs_iload_n dX4_addInstance_9 1 rfl ?_
    refine hs_aload_n dX4_addInstance_10 0 rfl ?_
    obtain ⟨r3, h3, h⟩ := hb_bind h
    refine hs_getR dX4_addInstance_11 lkX4_15 rfl h3 ?_
    refine hs_iload_n dX4_addInstance_14 1 rfl ?_
    obtain ⟨r4, h4, h⟩ := hb_bind h
    refine hs_iald dX4_addInstance_15 h4 ?_
    refine hs_aload_n dX4_addInstance_16 0 rfl ?_
    refine hs_iload_n dX4_addInstance_17 1 rfl ?_
    obtain ⟨r5, h5, h⟩ := hb_bind h
    obtain ⟨h5, nf5, hb5⟩ := hb_on_at h5
    refine hs_callVi (μ' := mX4_sizeOfInstance) (mc := 0) (ms := 0) (rc := 0) (rs := 0) (As := [.int x1]) (rest := [.int r4, .int x1, .ref x0]) (ci := 4) dX4_addInstance_18 lmX4_90 okX4_sizeOfInstance rfl (by decide) rfl (Nat.le_of_ble_eq_true rfl) rfl hb5 (c_X4_sizeOfInstance h5) ?_
    obtain ⟨r6, h6, h⟩ := hb_bind h
    obtain ⟨h6, nf6, hb6⟩ := hb_on_at h6
    refine hs_callVi (μ' := mX4_addObject) (mc := 0) (ms := 0) (rc := 0) (rs := 0) (As := [.int x1, .int r4, .int r5.1]) (rest := []) (ci := 4) dX4_addInstance_21 lmX4_94 okX4_addObject rfl (by decide) rfl (Nat.le_of_ble_eq_true rfl) rfl hb6 (c_X4_addObject h6) ?_
    refine hs_goto (tgt := 28) dX4_addInstance_24 (by decide) ?_
    obtain rfl := Option.some.inj h
    exact hs_ireturn dX4_addInstance_28 rfl (by rfl) (fun _ => rfl)
def mX4_sizeOfArray : hb_Y := (yX4_sizeOfArray, cX4_sizeOfArray, 1, (some .int), [], false)
theorem okX4_sizeOfArray : hb_okS mX4_sizeOfArray 1 := ⟨⟨hb_w 2 (by decide +kernel) (by decide +kernel), hb_w 762 (by decide +kernel) (by decide +kernel), ⟨by decide +kernel, by decide +kernel, by decide +kernel⟩, by decide⟩, hb_w 761 (by decide +kernel) (by decide +kernel)⟩
set_option maxHeartbeats 4000000 in
set_option maxRecDepth 20000 in
theorem c_X4_sizeOfArray {G : hb_G} {l : Launch} {z : Bool} {x0 : Int32} {σ : hb_M} {r : (Int32 × hb_M)} (h : f_X4_sizeOfArray x0 σ = some r) : hb_Call G l z 1 0 0 mX4_sizeOfArray [.int x0] σ (.inl (some (.int r.1)), r.2) := by
  refine hb_met (by decide) (Nat.le_of_ble_eq_true rfl) ?_
  unfold f_X4_sizeOfArray at h
  refine hs_bipush (v := (16 : Int32)) dX4_sizeOfArray_0 (by decide) ?_
  refine hs_iconst (v := (4 : Int32)) dX4_sizeOfArray_2 (by decide) ?_
  refine hs_iload_n dX4_sizeOfArray_3 0 rfl ?_
  refine hs_imul dX4_sizeOfArray_4 ?_
  refine hs_iadd dX4_sizeOfArray_5 ?_
  obtain ⟨r1, h1, h⟩ := hb_bind h
  refine hs_callSi (μ' := mX4_roundedUp) (mc := 0) (ms := 0) (rc := 0) (rs := 0) (As := [.int ((16 : Int32) + ((4 : Int32) * x0))]) (rest := []) dX4_sizeOfArray_6 lmX4_134 okX4_roundedUp rfl (by decide) rfl (Nat.le_of_ble_eq_true rfl) (c_X4_roundedUp h1) ?_
  obtain rfl := Option.some.inj h
  exact hs_ireturn dX4_sizeOfArray_9 rfl (by rfl) (fun _ => rfl)
def mX4_addArray : hb_Y := (yX4_addArray, cX4_addArray, 2, (some .int), [], false)
set_option maxHeartbeats 4000000 in
set_option maxRecDepth 20000 in
theorem c_X4_addArray {G : hb_G} {l : Launch} {z : Bool} {x0 : Nat} {x1 : Int32} {σ : hb_M} {r : (Int32 × hb_M)} (h : f_X4_addArray x0 x1 σ = some r) : hb_Call G l z 2 0 0 mX4_addArray [.ref x0, .int x1] σ (.inl (some (.int r.1)), r.2) := by
  refine hb_met (by decide) (Nat.le_of_ble_eq_true rfl) ?_
  unfold f_X4_addArray at h
  refine hs_aload_n dX4_addArray_0 0 rfl ?_
  refine hs_bipush (v := (10 : Int32)) dX4_addArray_1 (by decide) ?_
  refine hs_iload_n dX4_addArray_3 1 rfl ?_
  refine hs_iload_n dX4_addArray_4 1 rfl ?_
  obtain ⟨r1, h1, h⟩ := hb_bind h
  refine hs_callSi (μ' := mX4_sizeOfArray) (mc := 0) (ms := 0) (rc := 0) (rs := 0) (As := [.int x1]) (rest := [.int x1, .int (10 : Int32), .ref x0]) dX4_addArray_5 lmX4_98 okX4_sizeOfArray rfl (by decide) rfl (Nat.le_of_ble_eq_true rfl) (c_X4_sizeOfArray h1) ?_
  obtain ⟨r2, h2, h⟩ := hb_bind h
  obtain ⟨h2, nf2, hb2⟩ := hb_on_at h2
  refine hs_callVi (μ' := mX4_addObject) (mc := 0) (ms := 0) (rc := 0) (rs := 0) (As := [.int (10 : Int32), .int x1, .int r1.1]) (rest := []) (ci := 4) dX4_addArray_8 lmX4_94 okX4_addObject rfl (by decide) rfl (Nat.le_of_ble_eq_true rfl) rfl hb2 (c_X4_addObject h2) ?_
  obtain rfl := Option.some.inj h
  exact hs_ireturn dX4_addArray_11 rfl (by rfl) (fun _ => rfl)
def mX4_addHolder : hb_Y := (yX4_addHolder, cX4_addHolder, 1, (some .int), [], false)
set_option maxHeartbeats 4000000 in
set_option maxRecDepth 20000 in
theorem c_X4_addHolder {G : hb_G} {l : Launch} {z : Bool} {x0 : Nat} {σ : hb_M} {r : (Int32 × hb_M)} (h : f_X4_addHolder x0 σ = some r) : hb_Call G l z 2 0 0 mX4_addHolder [.ref x0] σ (.inl (some (.int r.1)), r.2) := by
  refine hb_met (by decide) (Nat.le_of_ble_eq_true rfl) ?_
  unfold f_X4_addHolder at h
  refine hs_aload_n dX4_addHolder_0 0 rfl ?_
  refine hs_bipush (v := (11 : Int32)) dX4_addHolder_1 (by decide) ?_
  refine hs_iconst (v := (1 : Int32)) dX4_addHolder_3 (by decide) ?_
  refine hs_bipush (v := (24 : Int32)) dX4_addHolder_4 (by decide) ?_
  obtain ⟨r1, h1, h⟩ := hb_bind h
  obtain ⟨h1, nf1, hb1⟩ := hb_on_at h1
  refine hs_callVi (μ' := mX4_addObject) (mc := 0) (ms := 0) (rc := 0) (rs := 0) (As := [.int (11 : Int32), .int (1 : Int32), .int (24 : Int32)]) (rest := []) (ci := 4) dX4_addHolder_6 lmX4_94 okX4_addObject rfl (by decide) rfl (Nat.le_of_ble_eq_true rfl) rfl hb1 (c_X4_addObject h1) ?_
  obtain rfl := Option.some.inj h
  exact hs_ireturn dX4_addHolder_9 rfl (by rfl) (fun _ => rfl)
def mX4_targetOf : hb_Y := (yX4_targetOf, cX4_targetOf, 3, (some .int), [], false)
theorem okX4_targetOf : hb_okV mX4_targetOf 2 := ⟨⟨hb_w 2 (by decide +kernel) (by decide +kernel), hb_w 811 (by decide +kernel) (by decide +kernel), ⟨by decide +kernel, by decide +kernel, by decide +kernel⟩, by decide⟩, hb_w 809 (by decide +kernel) (by decide +kernel), hb_w 810 (by decide +kernel) (by decide +kernel)⟩
set_option maxHeartbeats 4000000 in
set_option maxRecDepth 20000 in
theorem c_X4_targetOf {G : hb_G} {l : Launch} {z : Bool} {x0 : Nat} {x1 : Int32} {x2 : Int32} {σ : hb_M} {r : (Int32 × hb_M)} (h : f_X4_targetOf x0 x1 x2 σ = some r) : hb_Call G l z 2 0 0 mX4_targetOf [.ref x0, .int x1, .int x2] σ (.inl (some (.int r.1)), r.2) := by
  refine hb_met (by decide) (Nat.le_of_ble_eq_true rfl) ?_
  unfold f_X4_targetOf at h
  refine hs_aload_n dX4_targetOf_0 0 rfl ?_
  refine hs_iload_n dX4_targetOf_1 1 rfl ?_
  refine hs_iload_n dX4_targetOf_2 2 rfl ?_
  obtain ⟨r1, h1, h⟩ := hb_bind h
  obtain ⟨h1, nf1, hb1⟩ := hb_on_at h1
  refine hs_callVi (μ' := mX4_hasSlot) (mc := 0) (ms := 0) (rc := 0) (rs := 0) (As := [.int x1, .int x2]) (rest := []) (ci := 4) dX4_targetOf_3 lmX4_78 okX4_hasSlot rfl (by decide) rfl (Nat.le_of_ble_eq_true rfl) rfl hb1 (c_X4_hasSlot h1) ?_
  refine hs_if_eq (tgt := 23) dX4_targetOf_6 (by decide) (fun hc2 => ?_) (fun hc2 => ?_)
  · rw [if_pos hc2] at h
    refine hs_iconst (v := (-1 : Int32)) dX4_targetOf_23 (by decide) ?_
    obtain rfl := Option.some.inj h
    exact hs_ireturn dX4_targetOf_24 rfl (by rfl) (fun _ => rfl)
  · rw [if_neg hc2] at h
    refine hs_aload_n dX4_targetOf_9 0 rfl ?_
    obtain ⟨r3, h3, h⟩ := hb_bind h
    refine hs_getR dX4_targetOf_10 lkX4_39 rfl h3 ?_
    refine hs_iload_n dX4_targetOf_13 1 rfl ?_
    refine hs_bipush (v := (8 : Int32)) dX4_targetOf_14 (by decide) ?_
    refine hs_imul dX4_targetOf_16 ?_
    refine hs_iload_n dX4_targetOf_17 2 rfl ?_
    refine hs_iadd dX4_targetOf_18 ?_
    obtain ⟨r4, h4, h⟩ := hb_bind h
    refine hs_iald dX4_targetOf_19 h4 ?_
    refine hs_goto (tgt := 24) dX4_targetOf_20 (by decide) ?_
    obtain rfl := Option.some.inj h
    exact hs_ireturn dX4_targetOf_24 rfl (by rfl) (fun _ => rfl)
def mX4_putTarget : hb_Y := (yX4_putTarget, cX4_putTarget, 5, (some .int), [], false)
set_option maxHeartbeats 4000000 in
set_option maxRecDepth 20000 in
theorem c_X4_putTarget {G : hb_G} {l : Launch} {z : Bool} {x0 : Nat} {x1 : Int32} {x2 : Int32} {x3 : Int32} {σ : hb_M} {r : (Int32 × hb_M)} (h : f_X4_putTarget x0 x1 x2 x3 σ = some r) : hb_Call G l z 2 0 0 mX4_putTarget [.ref x0, .int x1, .int x2, .int x3] σ (.inl (some (.int r.1)), r.2) := by
  refine hb_met (by decide) (Nat.le_of_ble_eq_true rfl) ?_
  unfold f_X4_putTarget at h
  refine hs_aload_n dX4_putTarget_0 0 rfl ?_
  refine hs_iload_n dX4_putTarget_1 1 rfl ?_
  refine hs_iload_n dX4_putTarget_2 2 rfl ?_
  obtain ⟨r1, h1, h⟩ := hb_bind h
  obtain ⟨h1, nf1, hb1⟩ := hb_on_at h1
  refine hs_callVi (μ' := mX4_hasSlot) (mc := 0) (ms := 0) (rc := 0) (rs := 0) (As := [.int x1, .int x2]) (rest := []) (ci := 4) dX4_putTarget_3 lmX4_78 okX4_hasSlot rfl (by decide) rfl (Nat.le_of_ble_eq_true rfl) rfl hb1 (c_X4_hasSlot h1) ?_
  refine hs_if_ne (tgt := 11) dX4_putTarget_6 (by decide) (fun hc2 => ?_) (fun hc2 => ?_)
  · rw [if_neg hc2] at h
    refine hs_aload_n dX4_putTarget_11 0 rfl ?_
    obtain ⟨r3, h3, h⟩ := hb_bind h
    refine hs_getR dX4_putTarget_12 lkX4_39 rfl h3 ?_
    refine hs_iload_n dX4_putTarget_15 1 rfl ?_
    refine hs_bipush (v := (8 : Int32)) dX4_putTarget_16 (by decide) ?_
    refine hs_imul dX4_putTarget_18 ?_
    refine hs_iload_n dX4_putTarget_19 2 rfl ?_
    refine hs_iadd dX4_putTarget_20 ?_
    obtain ⟨r4, h4, h⟩ := hb_bind h
    refine hs_iald dX4_putTarget_21 h4 ?_
    refine hs_istore (lv' := [(4, .int r4), (0, .ref x0), (1, .int x1), (2, .int x2), (3, .int x3)]) dX4_putTarget_22 (by decide) rfl ?_
    refine hs_aload_n dX4_putTarget_24 1 rfl ?_
    obtain ⟨r5, h5, h⟩ := hb_bind h
    refine hs_getR dX4_putTarget_25 lkX4_39 rfl h5 ?_
    refine hs_iload_n dX4_putTarget_28 2 rfl ?_
    refine hs_bipush (v := (8 : Int32)) dX4_putTarget_29 (by decide) ?_
    refine hs_imul dX4_putTarget_31 ?_
    refine hs_iload_n dX4_putTarget_32 3 rfl ?_
    refine hs_iadd dX4_putTarget_33 ?_
    refine hs_iload_n dX4_putTarget_34 4 rfl ?_
    obtain ⟨r6, h6, h⟩ := hb_bind h
    refine hs_iast dX4_putTarget_35 h6 ?_
    refine hs_aload_n dX4_putTarget_36 1 rfl ?_
    refine hs_dup dX4_putTarget_37 rfl ?_
    obtain ⟨r7, h7, h⟩ := hb_bind h
    refine hs_getI dX4_putTarget_38 lkX4_61 rfl h7 ?_
    refine hs_iconst (v := (1 : Int32)) dX4_putTarget_41 (by decide) ?_
    refine hs_iadd dX4_putTarget_42 ?_
    obtain ⟨r8, h8, h⟩ := hb_bind h
    refine hs_putI dX4_putTarget_43 lpX4_putTarget_61 rfl h8 ?_
    refine hs_iload dX4_putTarget_46 0 rfl ?_
    obtain rfl := Option.some.inj h
    exact hs_ireturn dX4_putTarget_48 rfl (by rfl) (fun _ => rfl)
  · rw [if_pos hc2] at h
    refine hs_iconst (v := (-1 : Int32)) dX4_putTarget_9 (by decide) ?_
    obtain rfl := Option.some.inj h
    exact hs_ireturn dX4_putTarget_10 rfl (by rfl) (fun _ => rfl)
def mX4_putLength : hb_Y := (yX4_putLength, cX4_putLength, 4, (some .int), [], false)
set_option maxHeartbeats 4000000 in
set_option maxRecDepth 20000 in
theorem c_X4_putLength {G : hb_G} {l : Launch} {z : Bool} {x0 : Nat} {x1 : Int32} {x2 : Int32} {σ : hb_M} {r : (Int32 × hb_M)} (h : f_X4_putLength x0 x1 x2 σ = some r) : hb_Call G l z 2 0 0 mX4_putLength [.ref x0, .int x1, .int x2] σ (.inl (some (.int r.1)), r.2) := by
  refine hb_met (by decide) (Nat.le_of_ble_eq_true rfl) ?_
  unfold f_X4_putLength at h
  refine hs_aload_n dX4_putLength_0 0 rfl ?_
  obtain ⟨r1, h1, h⟩ := hb_bind h
  refine hs_getR dX4_putLength_1 lkX4_30 rfl h1 ?_
  refine hs_iload_n dX4_putLength_4 1 rfl ?_
  obtain ⟨r2, h2, h⟩ := hb_bind h
  refine hs_iald dX4_putLength_5 h2 ?_
  refine hs_istore_n (lv' := [(3, .int r2), (0, .ref x0), (1, .int x1), (2, .int x2)]) dX4_putLength_6 (by decide) rfl ?_
  refine hs_aload_n dX4_putLength_7 1 rfl ?_
  obtain ⟨r3, h3, h⟩ := hb_bind h
  refine hs_getR dX4_putLength_8 lkX4_27 rfl h3 ?_
  refine hs_iload_n dX4_putLength_11 2 rfl ?_
  refine hs_iload_n dX4_putLength_12 3 rfl ?_
  obtain ⟨r4, h4, h⟩ := hb_bind h
  refine hs_callSi (μ' := mX4_sizeOfArray) (mc := 0) (ms := 0) (rc := 0) (rs := 0) (As := [.int x2]) (rest := [.int x1, .ref r3]) dX4_putLength_13 lmX4_98 okX4_sizeOfArray rfl (by decide) rfl (Nat.le_of_ble_eq_true rfl) (c_X4_sizeOfArray h4) ?_
  obtain ⟨r5, h5, h⟩ := hb_bind h
  refine hs_iast dX4_putLength_16 h5 ?_
  refine hs_aload_n dX4_putLength_17 1 rfl ?_
  obtain ⟨r6, h6, h⟩ := hb_bind h
  refine hs_getR dX4_putLength_18 lkX4_30 rfl h6 ?_
  refine hs_iload_n dX4_putLength_21 2 rfl ?_
  refine hs_iload_n dX4_putLength_22 3 rfl ?_
  obtain ⟨r7, h7, h⟩ := hb_bind h
  refine hs_iast dX4_putLength_23 h7 ?_
  refine hs_aload_n dX4_putLength_24 1 rfl ?_
  refine hs_iload_n dX4_putLength_25 2 rfl ?_
  refine hs_iload_n dX4_putLength_26 3 rfl ?_
  obtain ⟨r8, h8, h⟩ := hb_bind h
  obtain ⟨h8, nf8, hb8⟩ := hb_on_at h8
  refine hs_callVv (μ' := mX4_emptySlotsFrom) (mc := 0) (ms := 0) (rc := 0) (rs := 0) (As := [.int x1, .int x2]) (rest := []) (ci := 4) dX4_putLength_27 lmX4_104 okX4_emptySlotsFrom rfl (by decide) rfl (Nat.le_of_ble_eq_true rfl) rfl hb8 (c_X4_emptySlotsFrom h8) ?_
  refine hs_aload_n dX4_putLength_30 1 rfl ?_
  refine hs_dup dX4_putLength_31 rfl ?_
  obtain ⟨r9, h9, h⟩ := hb_bind h
  refine hs_getI dX4_putLength_32 lkX4_61 rfl h9 ?_
  refine hs_iconst (v := (1 : Int32)) dX4_putLength_35 (by decide) ?_
  refine hs_iadd dX4_putLength_36 ?_
  obtain ⟨r10, h10, h⟩ := hb_bind h
  refine hs_putI dX4_putLength_37 lpX4_putLength_61 rfl h10 ?_
  refine hs_iload_n dX4_putLength_40 0 rfl ?_
  obtain rfl := Option.some.inj h
  exact hs_ireturn dX4_putLength_41 rfl (by rfl) (fun _ => rfl)
def mX4_putRoots : hb_Y := (yX4_putRoots, cX4_putRoots, 3, (some .int), [], false)
set_option maxHeartbeats 4000000 in
set_option maxRecDepth 20000 in
theorem c_X4_putRoots {G : hb_G} {l : Launch} {z : Bool} {x0 : Nat} {x1 : Int32} {x2 : Int32} {σ : hb_M} {r : (Int32 × hb_M)} (h : f_X4_putRoots x0 x1 x2 σ = some r) : hb_Call G l z 0 0 0 mX4_putRoots [.ref x0, .int x1, .int x2] σ (.inl (some (.int r.1)), r.2) := by
  refine hb_met (by decide) (Nat.le_of_ble_eq_true rfl) ?_
  unfold f_X4_putRoots at h
  refine hs_aload_n dX4_putRoots_0 0 rfl ?_
  obtain ⟨r1, h1, h⟩ := hb_bind h
  refine hs_getR dX4_putRoots_1 lkX4_36 rfl h1 ?_
  refine hs_iload_n dX4_putRoots_4 1 rfl ?_
  refine hs_iload_n dX4_putRoots_5 2 rfl ?_
  obtain ⟨r2, h2, h⟩ := hb_bind h
  refine hs_iast dX4_putRoots_6 h2 ?_
  refine hs_aload_n dX4_putRoots_7 0 rfl ?_
  refine hs_dup dX4_putRoots_8 rfl ?_
  obtain ⟨r3, h3, h⟩ := hb_bind h
  refine hs_getI dX4_putRoots_9 lkX4_61 rfl h3 ?_
  refine hs_iconst (v := (1 : Int32)) dX4_putRoots_12 (by decide) ?_
  refine hs_iadd dX4_putRoots_13 ?_
  obtain ⟨r4, h4, h⟩ := hb_bind h
  refine hs_putI dX4_putRoots_14 lpX4_putRoots_61 rfl h4 ?_
  refine hs_iload_n dX4_putRoots_17 2 rfl ?_
  obtain rfl := Option.some.inj h
  exact hs_ireturn dX4_putRoots_18 rfl (by rfl) (fun _ => rfl)
def mX8_contains : hb_Y := (yX8_contains, cX8_contains, 3, (some .boolean), [], false)
theorem okX8_contains : hb_okS mX8_contains 2 := ⟨⟨hb_w 1 (by decide +kernel) (by decide +kernel), hb_w 378 (by decide +kernel) (by decide +kernel), ⟨by decide +kernel, by decide +kernel, by decide +kernel⟩, by decide⟩, hb_w 377 (by decide +kernel) (by decide +kernel)⟩
set_option maxHeartbeats 4000000 in
set_option maxRecDepth 20000 in
theorem c_X8_contains {G : hb_G} {l : Launch} {z : Bool} {x0 : Int64} {x2 : Int32} {σ : hb_M} {r : (Int32 × hb_M)} (h : f_X8_contains x0 x2 σ = some r) : hb_Call G l z 0 0 0 mX8_contains [.long x0, .int x2] σ (.inl (some (.int r.1)), r.2) := by
  refine hb_met (by decide) (Nat.le_of_ble_eq_true rfl) ?_
  unfold f_X8_contains at h
  refine hs_iload_n dX8_contains_0 1 rfl ?_
  refine hs_if_lt (tgt := 24) dX8_contains_1 (by decide) (fun hc1 => ?_) (fun hc1 => ?_)
  · rw [if_pos hc1] at h
    refine hs_iconst (v := (0 : Int32)) dX8_contains_24 (by decide) ?_
    obtain rfl := Option.some.inj h
    exact hs_ireturn dX8_contains_25 rfl (by decide) (fun _ => rfl)
  · rw [if_neg hc1] at h
    refine hs_iload_n dX8_contains_4 1 rfl ?_
    refine hs_bipush (v := (40 : Int32)) dX8_contains_5 (by decide) ?_
    refine hs_icmp_ge (tgt := 24) dX8_contains_7 (by decide) (fun hc2 => ?_) (fun hc2 => ?_)
    · rw [if_pos hc2] at h
      refine hs_iconst (v := (0 : Int32)) dX8_contains_24 (by decide) ?_
      obtain rfl := Option.some.inj h
      exact hs_ireturn dX8_contains_25 rfl (by decide) (fun _ => rfl)
    · rw [if_neg hc2] at h
      refine hs_lload_n dX8_contains_10 0 rfl ?_
      refine hs_iload_n dX8_contains_11 1 rfl ?_
      refine hs_lushr dX8_contains_12 ?_
      refine hs_lconst (v := (1 : Int64)) dX8_contains_13 (by decide) ?_
      refine hs_land dX8_contains_14 ?_
      refine hs_lconst (v := (1 : Int64)) dX8_contains_15 (by decide) ?_
      refine hs_lcmp dX8_contains_16 ?_
      refine hs_if_ne (tgt := 24) dX8_contains_17 (by decide) (fun hc3 => ?_) (fun hc3 => ?_)
      · rw [if_neg hc3] at h
        refine hs_iconst (v := (0 : Int32)) dX8_contains_24 (by decide) ?_
        obtain rfl := Option.some.inj h
        exact hs_ireturn dX8_contains_25 rfl (by decide) (fun _ => rfl)
      · rw [if_pos hc3] at h
        refine hs_iconst (v := (1 : Int32)) dX8_contains_20 (by decide) ?_
        refine hs_goto (tgt := 25) dX8_contains_21 (by decide) ?_
        obtain rfl := Option.some.inj h
        exact hs_ireturn dX8_contains_25 rfl (by decide) (fun _ => rfl)
def mX4_sizeOfAll : hb_Y := (yX4_sizeOfAll, cX4_sizeOfAll, 5, (some .int), [], false)
theorem okX4_sizeOfAll : hb_okV mX4_sizeOfAll 1 := ⟨⟨hb_w 2 (by decide +kernel) (by decide +kernel), hb_w 375 (by decide +kernel) (by decide +kernel), ⟨by decide +kernel, by decide +kernel, by decide +kernel⟩, by decide⟩, hb_w 373 (by decide +kernel) (by decide +kernel), hb_w 374 (by decide +kernel) (by decide +kernel)⟩
set_option maxHeartbeats 4000000 in
set_option maxRecDepth 20000 in
theorem c_X4_sizeOfAll_b33 {G : hb_G} {l : Launch} {z : Bool}  (k5 : Nat → Int64 → Int32 → Int32 → hb_M → Option (Int32 × hb_M)) (hk5 : ∀ (x0 : Nat) (x1 : Int64) (x3 : Int32) (x4 : Int32) (σ : hb_M) (r : (Int32 × hb_M)), k5 x0 x1 x3 x4 σ = some r → hb_T G l z mX4_sizeOfAll 1 0 0 5 [(0, .ref x0), (1, .long x1), (3, .int x3), (4, .int x4)] [] σ (.inl (some (.int r.1)), r.2))  {x0 : Nat} {x1 : Int64} {x4 : Int32} {s0 : Int32} {s1 : Int32} {σ : hb_M} {r : (Int32 × hb_M)} (h : f_X4_sizeOfAll_b33 k5 x0 x1 x4 s0 s1 σ = some r) : hb_T G l z mX4_sizeOfAll 1 0 0 33 [(0, .ref x0), (1, .long x1), (4, .int x4)] [.int s1, .int s0] σ (.inl (some (.int r.1)), r.2) := by
  unfold f_X4_sizeOfAll_b33 at h
  refine hs_iadd dX4_sizeOfAll_33 ?_
  refine hs_istore_n (lv' := [(3, .int (s0 + s1)), (0, .ref x0), (1, .long x1), (4, .int x4)]) dX4_sizeOfAll_34 (by decide) rfl ?_
  refine hs_iinc2 (k := (1 : Int32)) (lv' := [(4, .int (x4 + (1 : Int32))), (3, .int (s0 + s1)), (0, .ref x0), (1, .long x1)]) dX4_sizeOfAll_35 (by decide) 3 rfl (by decide) rfl ?_
  refine hs_goto (tgt := 5) dX4_sizeOfAll_38 (by decide) ?_
  refine hs_sub (lv' := [(0, .ref x0), (1, .long x1), (3, .int (s0 + s1)), (4, .int (x4 + (1 : Int32)))]) [2, 3, 1, 0] rfl ?_
  exact hk5 _ _ _ _ _ _ h
set_option maxHeartbeats 4000000 in
set_option maxRecDepth 20000 in
theorem c_X4_sizeOfAll_b5 {G : hb_G} {l : Launch} {z : Bool} : ∀ (n : Nat) (x0 : Nat) (x1 : Int64) (x3 : Int32) (x4 : Int32) (σ : hb_M) (r : (Int32 × hb_M)), f_X4_sizeOfAll_b5 n x0 x1 x3 x4 σ = some r → hb_T G l z mX4_sizeOfAll 1 0 0 5 [(0, .ref x0), (1, .long x1), (3, .int x3), (4, .int x4)] [] σ (.inl (some (.int r.1)), r.2) := by
  intro n
  induction n with
  | zero =>
    intro x0 x1 x3 x4 σ r h
    cases h
  | succ n ih =>
    intro x0 x1 x3 x4 σ r h
    rw [f_X4_sizeOfAll_b5] at h
    refine hs_iload dX4_sizeOfAll_5 3 rfl ?_
    refine hs_bipush (v := (40 : Int32)) dX4_sizeOfAll_7 (by decide) ?_
    refine hs_icmp_ge (tgt := 41) dX4_sizeOfAll_9 (by decide) (fun hc1 => ?_) (fun hc1 => ?_)
    · rw [if_pos hc1] at h
      refine hs_iload_n dX4_sizeOfAll_41 2 rfl ?_
      obtain rfl := Option.some.inj h
      exact hs_ireturn dX4_sizeOfAll_42 rfl (by rfl) (fun _ => rfl)
    · rw [if_neg hc1] at h
      refine hs_iload_n dX4_sizeOfAll_12 2 rfl ?_
      refine hs_lload_n dX4_sizeOfAll_13 1 rfl ?_
      refine hs_iload dX4_sizeOfAll_14 3 rfl ?_
      obtain ⟨r2, h2, h⟩ := hb_bind h
      refine hs_callSNi (μ' := mX8_contains) (mc := 0) (ms := 0) (rc := 0) (rs := 0) (As := [.long x1, .int x4]) (rest := [.int x3]) dX4_sizeOfAll_16 lnX4_118 okX8_contains rfl (by decide) rfl (Nat.le_of_ble_eq_true rfl) (c_X8_contains h2) ?_
      refine hs_if_eq (tgt := 32) dX4_sizeOfAll_19 (by decide) (fun hc3 => ?_) (fun hc3 => ?_)
      · rw [if_pos hc3] at h
        refine hs_iconst (v := (0 : Int32)) dX4_sizeOfAll_32 (by decide) ?_
        refine hs_sub (lv' := [(0, .ref x0), (1, .long x1), (4, .int x4)]) [0, 1, 3] rfl ?_
        exact c_X4_sizeOfAll_b33 (f_X4_sizeOfAll_b5 n) ih h
      · rw [if_neg hc3] at h
        refine hs_aload_n dX4_sizeOfAll_22 0 rfl ?_
        obtain ⟨r4, h4, h⟩ := hb_bind h
        refine hs_getR dX4_sizeOfAll_23 lkX4_27 rfl h4 ?_
        refine hs_iload dX4_sizeOfAll_26 3 rfl ?_
        obtain ⟨r5, h5, h⟩ := hb_bind h
        refine hs_iald dX4_sizeOfAll_28 h5 ?_
        refine hs_goto (tgt := 33) dX4_sizeOfAll_29 (by decide) ?_
        refine hs_sub (lv' := [(0, .ref x0), (1, .long x1), (4, .int x4)]) [0, 1, 3] rfl ?_
        exact c_X4_sizeOfAll_b33 (f_X4_sizeOfAll_b5 n) ih h
set_option maxHeartbeats 4000000 in
set_option maxRecDepth 20000 in
theorem c_X4_sizeOfAll {G : hb_G} {l : Launch} {z : Bool} {x0 : Nat} {x1 : Int64} {σ : hb_M} {r : (Int32 × hb_M)} (h : f_X4_sizeOfAll x0 x1 σ = some r) : hb_Call G l z 1 0 0 mX4_sizeOfAll [.ref x0, .long x1] σ (.inl (some (.int r.1)), r.2) := by
  refine hb_met (by decide) (Nat.le_of_ble_eq_true rfl) ?_
  unfold f_X4_sizeOfAll at h
  refine hs_iconst (v := (0 : Int32)) dX4_sizeOfAll_0 (by decide) ?_
  refine hs_istore_n (lv' := [(3, .int (0 : Int32)), (0, .ref x0), (1, .long x1)]) dX4_sizeOfAll_1 (by decide) rfl ?_
  refine hs_iconst (v := (0 : Int32)) dX4_sizeOfAll_2 (by decide) ?_
  refine hs_istore (lv' := [(4, .int (0 : Int32)), (3, .int (0 : Int32)), (0, .ref x0), (1, .long x1)]) dX4_sizeOfAll_3 (by decide) rfl ?_
  refine hs_sub (lv' := [(0, .ref x0), (1, .long x1), (3, .int (0 : Int32)), (4, .int (0 : Int32))]) [2, 3, 1, 0] rfl ?_
  exact c_X4_sizeOfAll_b5 hb_FU _ _ _ _ _ _ h
def mX4_grow : hb_Y := (yX4_grow, cX4_grow, 2, none, [], false)
theorem okX4_grow : hb_okV mX4_grow 1 := ⟨⟨hb_w 2 (by decide +kernel) (by decide +kernel), hb_w 435 (by decide +kernel) (by decide +kernel), ⟨by decide +kernel, by decide +kernel, by decide +kernel⟩, by decide⟩, hb_w 434 (by decide +kernel) (by decide +kernel), hb_wp (q := (yX4_grow, 13)) 8 (by decide +kernel) (by decide +kernel)⟩
set_option maxHeartbeats 4000000 in
set_option maxRecDepth 20000 in
theorem c_X4_grow {G : hb_G} {l : Launch} {z : Bool} {x0 : Nat} {x1 : Int32} {σ : hb_M} {r : hb_M} (h : f_X4_grow x0 x1 σ = some r) : hb_Call G l z 1 0 0 mX4_grow [.ref x0, .int x1] σ (.inl none, r) := by
  refine hb_met (by decide) (Nat.le_of_ble_eq_true rfl) ?_
  unfold f_X4_grow at h
  refine hs_aload_n dX4_grow_0 0 rfl ?_
  obtain ⟨r1, h1, h⟩ := hb_bind h
  refine hs_getR dX4_grow_1 lkX4_33 rfl h1 ?_
  refine hs_iload_n dX4_grow_4 1 rfl ?_
  refine hs_aload_n dX4_grow_5 0 rfl ?_
  obtain ⟨r2, h2, h⟩ := hb_bind h
  refine hs_getR dX4_grow_6 lkX4_33 rfl h2 ?_
  refine hs_iload_n dX4_grow_9 1 rfl ?_
  obtain ⟨r3, h3, h⟩ := hb_bind h
  refine hs_iald dX4_grow_10 h3 ?_
  refine hs_iconst (v := (1 : Int32)) dX4_grow_11 (by decide) ?_
  refine hs_iadd dX4_grow_12 ?_
  refine hs_bipush (v := (99 : Int32)) dX4_grow_13 (by decide) ?_
  refine hs_mmin dX4_grow_15 wd_436 hb_mmin1 hb_m0 hb_mmin2 (Nat.le_of_ble_eq_true rfl) ?_
  obtain ⟨r4, h4, h⟩ := hb_bind h
  refine hs_iast dX4_grow_18 h4 ?_
  refine hs_aload_n dX4_grow_19 0 rfl ?_
  obtain ⟨r5, h5, h⟩ := hb_bind h
  refine hs_getR dX4_grow_20 lkX4_21 rfl h5 ?_
  refine hs_iload_n dX4_grow_23 1 rfl ?_
  obtain ⟨r6, h6, h⟩ := hb_bind h
  refine hs_iald dX4_grow_24 h6 ?_
  refine hs_bipush (v := (11 : Int32)) dX4_grow_25 (by decide) ?_
  refine hs_icmp_ne (tgt := 52) dX4_grow_27 (by decide) (fun hc7 => ?_) (fun hc7 => ?_)
  · rw [if_neg hc7] at h
    obtain rfl := Option.some.inj h
    exact hs_return dX4_grow_52 rfl (fun _ => rfl)
  · rw [if_pos hc7] at h
    refine hs_aload_n dX4_grow_30 0 rfl ?_
    refine hs_aload_n dX4_grow_31 0 rfl ?_
    obtain ⟨r8, h8, h⟩ := hb_bind h
    refine hs_getR dX4_grow_32 lkX4_39 rfl h8 ?_
    refine hs_iload_n dX4_grow_35 1 rfl ?_
    refine hs_bipush (v := (8 : Int32)) dX4_grow_36 (by decide) ?_
    refine hs_imul dX4_grow_38 ?_
    obtain ⟨r9, h9, h⟩ := hb_bind h
    refine hs_iald dX4_grow_39 h9 ?_
    obtain ⟨r10, h10, h⟩ := hb_bind h
    obtain ⟨h10, nf10, hb10⟩ := hb_on_at h10
    refine hs_callVi (μ' := mX4_hasObject) (mc := 0) (ms := 0) (rc := 0) (rs := 0) (As := [.int r9]) (rest := []) (ci := 4) dX4_grow_40 lmX4_68 okX4_hasObject rfl (by decide) rfl (Nat.le_of_ble_eq_true rfl) rfl hb10 (c_X4_hasObject h10) ?_
    refine hs_if_ne (tgt := 52) dX4_grow_43 (by decide) (fun hc11 => ?_) (fun hc11 => ?_)
    · rw [if_neg hc11] at h
      obtain rfl := Option.some.inj h
      exact hs_return dX4_grow_52 rfl (fun _ => rfl)
    · rw [if_pos hc11] at h
      refine hs_aload_n dX4_grow_46 0 rfl ?_
      refine hs_iload_n dX4_grow_47 1 rfl ?_
      refine hs_iconst (v := (0 : Int32)) dX4_grow_48 (by decide) ?_
      obtain ⟨r12, h12, h⟩ := hb_bind h
      obtain ⟨h12, nf12, hb12⟩ := hb_on_at h12
      refine hs_callVv (μ' := mX4_emptySlotsFrom) (mc := 0) (ms := 0) (rc := 0) (rs := 0) (As := [.int x1, .int (0 : Int32)]) (rest := []) (ci := 4) dX4_grow_49 lmX4_104 okX4_emptySlotsFrom rfl (by decide) rfl (Nat.le_of_ble_eq_true rfl) rfl hb12 (c_X4_emptySlotsFrom h12) ?_
      obtain rfl := Option.some.inj h
      exact hs_return dX4_grow_52 rfl (fun _ => rfl)
def mX4_removeAllBut : hb_Y := (yX4_removeAllBut, cX4_removeAllBut, 5, (some .int), [], false)
set_option maxHeartbeats 4000000 in
set_option maxRecDepth 20000 in
theorem c_X4_removeAllBut_b75 {G : hb_G} {l : Launch} {z : Bool}  (k51 : Nat → Int32 → Int32 → hb_M → Option (Int32 × hb_M)) (hk51 : ∀ (x0 : Nat) (x3 : Int32) (x4 : Int32) (σ : hb_M) (r : (Int32 × hb_M)), k51 x0 x3 x4 σ = some r → hb_T G l z mX4_removeAllBut 2 0 0 51 [(0, .ref x0), (3, .int x3), (4, .int x4)] [] σ (.inl (some (.int r.1)), r.2))  {x0 : Nat} {x3 : Int32} {x4 : Int32} {σ : hb_M} {r : (Int32 × hb_M)} (h : f_X4_removeAllBut_b75 k51 x0 x3 x4 σ = some r) : hb_T G l z mX4_removeAllBut 2 0 0 75 [(0, .ref x0), (3, .int x3), (4, .int x4)] [] σ (.inl (some (.int r.1)), r.2) := by
  unfold f_X4_removeAllBut_b75 at h
  refine hs_iinc2 (k := (1 : Int32)) (lv' := [(4, .int (x4 + (1 : Int32))), (0, .ref x0), (3, .int x3)]) dX4_removeAllBut_75 (by decide) 2 rfl (by decide) rfl ?_
  refine hs_goto (tgt := 51) dX4_removeAllBut_78 (by decide) ?_
  refine hs_sub (lv' := [(0, .ref x0), (3, .int x3), (4, .int (x4 + (1 : Int32)))]) [1, 2, 0] rfl ?_
  exact hk51 _ _ _ _ _ h
set_option maxHeartbeats 4000000 in
set_option maxRecDepth 20000 in
theorem c_X4_removeAllBut_b51 {G : hb_G} {l : Launch} {z : Bool} : ∀ (n : Nat) (x0 : Nat) (x3 : Int32) (x4 : Int32) (σ : hb_M) (r : (Int32 × hb_M)), f_X4_removeAllBut_b51 n x0 x3 x4 σ = some r → hb_T G l z mX4_removeAllBut 2 0 0 51 [(0, .ref x0), (3, .int x3), (4, .int x4)] [] σ (.inl (some (.int r.1)), r.2) := by
  intro n
  induction n with
  | zero =>
    intro x0 x3 x4 σ r h
    cases h
  | succ n ih =>
    intro x0 x3 x4 σ r h
    rw [f_X4_removeAllBut_b51] at h
    refine hs_iload dX4_removeAllBut_51 2 rfl ?_
    refine hs_bipush (v := (40 : Int32)) dX4_removeAllBut_53 (by decide) ?_
    refine hs_icmp_ge (tgt := 81) dX4_removeAllBut_55 (by decide) (fun hc1 => ?_) (fun hc1 => ?_)
    · rw [if_pos hc1] at h
      refine hs_aload_n dX4_removeAllBut_81 0 rfl ?_
      refine hs_dup dX4_removeAllBut_82 rfl ?_
      obtain ⟨r2, h2, h⟩ := hb_bind h
      refine hs_getI dX4_removeAllBut_83 lkX4_61 rfl h2 ?_
      refine hs_iconst (v := (1 : Int32)) dX4_removeAllBut_86 (by decide) ?_
      refine hs_iadd dX4_removeAllBut_87 ?_
      obtain ⟨r3, h3, h⟩ := hb_bind h
      refine hs_putI dX4_removeAllBut_88 lpX4_removeAllBut_61 rfl h3 ?_
      refine hs_iload_n dX4_removeAllBut_91 1 rfl ?_
      obtain rfl := Option.some.inj h
      exact hs_ireturn dX4_removeAllBut_92 rfl (by rfl) (fun _ => rfl)
    · rw [if_neg hc1] at h
      refine hs_aload_n dX4_removeAllBut_58 0 rfl ?_
      obtain ⟨r4, h4, h⟩ := hb_bind h
      refine hs_getR dX4_removeAllBut_59 lkX4_21 rfl h4 ?_
      refine hs_iload dX4_removeAllBut_62 2 rfl ?_
      obtain ⟨r5, h5, h⟩ := hb_bind h
      refine hs_iald dX4_removeAllBut_64 h5 ?_
      refine hs_iconst (v := (-1 : Int32)) dX4_removeAllBut_65 (by decide) ?_
      refine hs_icmp_eq (tgt := 75) dX4_removeAllBut_66 (by decide) (fun hc6 => ?_) (fun hc6 => ?_)
      · rw [if_pos hc6] at h
        refine hs_sub (lv' := [(0, .ref x0), (3, .int x3), (4, .int x4)]) [0, 1, 2] rfl ?_
        exact c_X4_removeAllBut_b75 (f_X4_removeAllBut_b51 n) ih h
      · rw [if_neg hc6] at h
        refine hs_aload_n dX4_removeAllBut_69 0 rfl ?_
        refine hs_iload dX4_removeAllBut_70 2 rfl ?_
        obtain ⟨r7, h7, h⟩ := hb_bind h
        obtain ⟨h7, nf7, hb7⟩ := hb_on_at h7
        refine hs_callVv (μ' := mX4_grow) (mc := 0) (ms := 0) (rc := 0) (rs := 0) (As := [.int x4]) (rest := []) (ci := 4) dX4_removeAllBut_72 lmX4_122 okX4_grow rfl (by decide) rfl (Nat.le_of_ble_eq_true rfl) rfl hb7 (c_X4_grow h7) ?_
        refine hs_sub (lv' := [(0, .ref x0), (3, .int x3), (4, .int x4)]) [0, 1, 2] rfl ?_
        exact c_X4_removeAllBut_b75 (f_X4_removeAllBut_b51 n) ih h
set_option maxHeartbeats 4000000 in
set_option maxRecDepth 20000 in
theorem c_X4_removeAllBut_b42 {G : hb_G} {l : Launch} {z : Bool}  (k18 : Nat → Int64 → Int32 → Int32 → hb_M → Option (Int32 × hb_M)) (hk18 : ∀ (x0 : Nat) (x1 : Int64) (x3 : Int32) (x4 : Int32) (σ : hb_M) (r : (Int32 × hb_M)), k18 x0 x1 x3 x4 σ = some r → hb_T G l z mX4_removeAllBut 2 0 0 18 [(0, .ref x0), (1, .long x1), (3, .int x3), (4, .int x4)] [] σ (.inl (some (.int r.1)), r.2))  {x0 : Nat} {x1 : Int64} {x3 : Int32} {x4 : Int32} {σ : hb_M} {r : (Int32 × hb_M)} (h : f_X4_removeAllBut_b42 k18 x0 x1 x3 x4 σ = some r) : hb_T G l z mX4_removeAllBut 2 0 0 42 [(0, .ref x0), (1, .long x1), (3, .int x3), (4, .int x4)] [] σ (.inl (some (.int r.1)), r.2) := by
  unfold f_X4_removeAllBut_b42 at h
  refine hs_iinc2 (k := (1 : Int32)) (lv' := [(4, .int (x4 + (1 : Int32))), (0, .ref x0), (1, .long x1), (3, .int x3)]) dX4_removeAllBut_42 (by decide) 3 rfl (by decide) rfl ?_
  refine hs_goto (tgt := 18) dX4_removeAllBut_45 (by decide) ?_
  refine hs_sub (lv' := [(0, .ref x0), (1, .long x1), (3, .int x3), (4, .int (x4 + (1 : Int32)))]) [1, 2, 3, 0] rfl ?_
  exact hk18 _ _ _ _ _ _ h
set_option maxHeartbeats 4000000 in
set_option maxRecDepth 20000 in
theorem c_X4_removeAllBut_b18 {G : hb_G} {l : Launch} {z : Bool} : ∀ (n : Nat) (x0 : Nat) (x1 : Int64) (x3 : Int32) (x4 : Int32) (σ : hb_M) (r : (Int32 × hb_M)), f_X4_removeAllBut_b18 n x0 x1 x3 x4 σ = some r → hb_T G l z mX4_removeAllBut 2 0 0 18 [(0, .ref x0), (1, .long x1), (3, .int x3), (4, .int x4)] [] σ (.inl (some (.int r.1)), r.2) := by
  intro n
  induction n with
  | zero =>
    intro x0 x1 x3 x4 σ r h
    cases h
  | succ n ih =>
    intro x0 x1 x3 x4 σ r h
    rw [f_X4_removeAllBut_b18] at h
    refine hs_iload dX4_removeAllBut_18 3 rfl ?_
    refine hs_bipush (v := (40 : Int32)) dX4_removeAllBut_20 (by decide) ?_
    refine hs_icmp_ge (tgt := 48) dX4_removeAllBut_22 (by decide) (fun hc1 => ?_) (fun hc1 => ?_)
    · rw [if_pos hc1] at h
      refine hs_iconst (v := (0 : Int32)) dX4_removeAllBut_48 (by decide) ?_
      refine hs_istore (lv' := [(4, .int (0 : Int32)), (0, .ref x0), (1, .long x1), (3, .int x3)]) dX4_removeAllBut_49 (by decide) rfl ?_
      refine hs_sub (lv' := [(0, .ref x0), (3, .int x3), (4, .int (0 : Int32))]) [1, 3, 0] rfl ?_
      exact c_X4_removeAllBut_b51 hb_FU _ _ _ _ _ h
    · rw [if_neg hc1] at h
      refine hs_lload_n dX4_removeAllBut_25 1 rfl ?_
      refine hs_iload dX4_removeAllBut_26 3 rfl ?_
      obtain ⟨r2, h2, h⟩ := hb_bind h
      refine hs_callSNi (μ' := mX8_contains) (mc := 0) (ms := 0) (rc := 0) (rs := 0) (As := [.long x1, .int x4]) (rest := []) dX4_removeAllBut_28 lnX4_118 okX8_contains rfl (by decide) rfl (Nat.le_of_ble_eq_true rfl) (c_X8_contains h2) ?_
      refine hs_if_ne (tgt := 42) dX4_removeAllBut_31 (by decide) (fun hc3 => ?_) (fun hc3 => ?_)
      · rw [if_neg hc3] at h
        refine hs_sub (lv' := [(0, .ref x0), (1, .long x1), (3, .int x3), (4, .int x4)]) [0, 1, 2, 3] rfl ?_
        exact c_X4_removeAllBut_b42 (f_X4_removeAllBut_b18 n) ih h
      · rw [if_pos hc3] at h
        refine hs_aload_n dX4_removeAllBut_34 0 rfl ?_
        obtain ⟨r4, h4, h⟩ := hb_bind h
        refine hs_getR dX4_removeAllBut_35 lkX4_21 rfl h4 ?_
        refine hs_iload dX4_removeAllBut_38 3 rfl ?_
        refine hs_iconst (v := (-1 : Int32)) dX4_removeAllBut_40 (by decide) ?_
        obtain ⟨r5, h5, h⟩ := hb_bind h
        refine hs_iast dX4_removeAllBut_41 h5 ?_
        refine hs_sub (lv' := [(0, .ref x0), (1, .long x1), (3, .int x3), (4, .int x4)]) [0, 1, 2, 3] rfl ?_
        exact c_X4_removeAllBut_b42 (f_X4_removeAllBut_b18 n) ih h
set_option maxHeartbeats 4000000 in
set_option maxRecDepth 20000 in
theorem c_X4_removeAllBut {G : hb_G} {l : Launch} {z : Bool} {x0 : Nat} {x1 : Int64} {σ : hb_M} {r : (Int32 × hb_M)} (h : f_X4_removeAllBut x0 x1 σ = some r) : hb_Call G l z 2 0 0 mX4_removeAllBut [.ref x0, .long x1] σ (.inl (some (.int r.1)), r.2) := by
  refine hb_met (by decide) (Nat.le_of_ble_eq_true rfl) ?_
  unfold f_X4_removeAllBut at h
  refine hs_aload_n dX4_removeAllBut_0 0 rfl ?_
  refine hs_aload_n dX4_removeAllBut_1 0 rfl ?_
  obtain ⟨r1, h1, h⟩ := hb_bind h
  obtain ⟨h1, nf1, hb1⟩ := hb_on_at h1
  refine hs_callVl (μ' := mX4_allObjects) (mc := 0) (ms := 0) (rc := 0) (rs := 0) (As := []) (rest := [.ref x0]) (ci := 4) dX4_removeAllBut_2 lmX4_108 okX4_allObjects rfl (by decide) rfl (Nat.le_of_ble_eq_true rfl) rfl hb1 (c_X4_allObjects h1) ?_
  refine hs_lload_n dX4_removeAllBut_5 1 rfl ?_
  refine hs_ldc2 (v := (-1 : Int64)) dX4_removeAllBut_6 wd_430 ?_
  refine hs_lxor dX4_removeAllBut_9 ?_
  refine hs_land dX4_removeAllBut_10 ?_
  obtain ⟨r2, h2, h⟩ := hb_bind h
  obtain ⟨h2, nf2, hb2⟩ := hb_on_at h2
  refine hs_callVi (μ' := mX4_sizeOfAll) (mc := 0) (ms := 0) (rc := 0) (rs := 0) (As := [.long (r1.1 &&& (x1 ^^^ (-1 : Int64)))]) (rest := []) (ci := 4) dX4_removeAllBut_11 lmX4_114 okX4_sizeOfAll rfl (by decide) rfl (Nat.le_of_ble_eq_true rfl) rfl hb2 (c_X4_sizeOfAll h2) ?_
  refine hs_istore_n (lv' := [(3, .int r2.1), (0, .ref x0), (1, .long x1)]) dX4_removeAllBut_14 (by decide) rfl ?_
  refine hs_iconst (v := (0 : Int32)) dX4_removeAllBut_15 (by decide) ?_
  refine hs_istore (lv' := [(4, .int (0 : Int32)), (3, .int r2.1), (0, .ref x0), (1, .long x1)]) dX4_removeAllBut_16 (by decide) rfl ?_
  refine hs_sub (lv' := [(0, .ref x0), (1, .long x1), (3, .int r2.1), (4, .int (0 : Int32))]) [2, 3, 1, 0] rfl ?_
  exact c_X4_removeAllBut_b18 hb_FU _ _ _ _ _ _ h
def mX4_countBelow : hb_Y := (yX4_countBelow, cX4_countBelow, 4, (some .int), [], false)
theorem okX4_countBelow : hb_okV mX4_countBelow 1 := ⟨⟨hb_w 2 (by decide +kernel) (by decide +kernel), hb_w 799 (by decide +kernel) (by decide +kernel), ⟨by decide +kernel, by decide +kernel, by decide +kernel⟩, by decide⟩, hb_w 798 (by decide +kernel) (by decide +kernel), hb_wp (q := (yX4_countBelow, 13)) 25 (by decide +kernel) (by decide +kernel)⟩
set_option maxHeartbeats 4000000 in
set_option maxRecDepth 20000 in
theorem c_X4_countBelow_b28 {G : hb_G} {l : Launch} {z : Bool}  (k4 : Nat → Int32 → Int32 → Int32 → hb_M → Option (Int32 × hb_M)) (hk4 : ∀ (x0 : Nat) (x1 : Int32) (x2 : Int32) (x3 : Int32) (σ : hb_M) (r : (Int32 × hb_M)), k4 x0 x1 x2 x3 σ = some r → hb_T G l z mX4_countBelow 0 0 0 4 [(0, .ref x0), (1, .int x1), (2, .int x2), (3, .int x3)] [] σ (.inl (some (.int r.1)), r.2))  {x0 : Nat} {x1 : Int32} {x3 : Int32} {s0 : Int32} {s1 : Int32} {σ : hb_M} {r : (Int32 × hb_M)} (h : f_X4_countBelow_b28 k4 x0 x1 x3 s0 s1 σ = some r) : hb_T G l z mX4_countBelow 0 0 0 28 [(0, .ref x0), (1, .int x1), (3, .int x3)] [.int s1, .int s0] σ (.inl (some (.int r.1)), r.2) := by
  unfold f_X4_countBelow_b28 at h
  refine hs_iadd dX4_countBelow_28 ?_
  refine hs_istore_n (lv' := [(2, .int (s0 + s1)), (0, .ref x0), (1, .int x1), (3, .int x3)]) dX4_countBelow_29 (by decide) rfl ?_
  refine hs_iinc2 (k := (1 : Int32)) (lv' := [(3, .int (x3 + (1 : Int32))), (2, .int (s0 + s1)), (0, .ref x0), (1, .int x1)]) dX4_countBelow_30 (by decide) 3 rfl (by decide) rfl ?_
  refine hs_goto (tgt := 4) dX4_countBelow_33 (by decide) ?_
  refine hs_sub (lv' := [(0, .ref x0), (1, .int x1), (2, .int (s0 + s1)), (3, .int (x3 + (1 : Int32)))]) [2, 3, 1, 0] rfl ?_
  exact hk4 _ _ _ _ _ _ h
set_option maxHeartbeats 4000000 in
set_option maxRecDepth 20000 in
theorem c_X4_countBelow_b4 {G : hb_G} {l : Launch} {z : Bool} : ∀ (n : Nat) (x0 : Nat) (x1 : Int32) (x2 : Int32) (x3 : Int32) (σ : hb_M) (r : (Int32 × hb_M)), f_X4_countBelow_b4 n x0 x1 x2 x3 σ = some r → hb_T G l z mX4_countBelow 0 0 0 4 [(0, .ref x0), (1, .int x1), (2, .int x2), (3, .int x3)] [] σ (.inl (some (.int r.1)), r.2) := by
  intro n
  induction n with
  | zero =>
    intro x0 x1 x2 x3 σ r h
    cases h
  | succ n ih =>
    intro x0 x1 x2 x3 σ r h
    rw [f_X4_countBelow_b4] at h
    refine hs_iload_n dX4_countBelow_4 3 rfl ?_
    refine hs_aload_n dX4_countBelow_5 0 rfl ?_
    obtain ⟨r1, h1, h⟩ := hb_bind h
    refine hs_getI dX4_countBelow_6 lkX4_42 rfl h1 ?_
    refine hs_icmp_ge (tgt := 36) dX4_countBelow_9 (by decide) (fun hc2 => ?_) (fun hc2 => ?_)
    · rw [if_pos hc2] at h
      refine hs_iload_n dX4_countBelow_36 2 rfl ?_
      obtain rfl := Option.some.inj h
      exact hs_ireturn dX4_countBelow_37 rfl (by rfl) (fun _ => rfl)
    · rw [if_neg hc2] at h
      refine hs_iload_n dX4_countBelow_12 2 rfl ?_
      refine hs_aload_n dX4_countBelow_13 0 rfl ?_
      obtain ⟨r3, h3, h⟩ := hb_bind h
      refine hs_getR dX4_countBelow_14 lkX4_9 rfl h3 ?_
      refine hs_iload_n dX4_countBelow_17 3 rfl ?_
      obtain ⟨r4, h4, h⟩ := hb_bind h
      refine hs_iald dX4_countBelow_18 h4 ?_
      refine hs_iload_n dX4_countBelow_19 1 rfl ?_
      refine hs_icmp_ne (tgt := 27) dX4_countBelow_20 (by decide) (fun hc5 => ?_) (fun hc5 => ?_)
      · rw [if_neg hc5] at h
        refine hs_iconst (v := (0 : Int32)) dX4_countBelow_27 (by decide) ?_
        refine hs_sub (lv' := [(0, .ref x0), (1, .int x1), (3, .int x3)]) [0, 1, 3] rfl ?_
        exact c_X4_countBelow_b28 (f_X4_countBelow_b4 n) ih h
      · rw [if_pos hc5] at h
        refine hs_iconst (v := (1 : Int32)) dX4_countBelow_23 (by decide) ?_
        refine hs_goto (tgt := 28) dX4_countBelow_24 (by decide) ?_
        refine hs_sub (lv' := [(0, .ref x0), (1, .int x1), (3, .int x3)]) [0, 1, 3] rfl ?_
        exact c_X4_countBelow_b28 (f_X4_countBelow_b4 n) ih h
set_option maxHeartbeats 4000000 in
set_option maxRecDepth 20000 in
theorem c_X4_countBelow {G : hb_G} {l : Launch} {z : Bool} {x0 : Nat} {x1 : Int32} {σ : hb_M} {r : (Int32 × hb_M)} (h : f_X4_countBelow x0 x1 σ = some r) : hb_Call G l z 0 0 0 mX4_countBelow [.ref x0, .int x1] σ (.inl (some (.int r.1)), r.2) := by
  refine hb_met (by decide) (Nat.le_of_ble_eq_true rfl) ?_
  unfold f_X4_countBelow at h
  refine hs_iconst (v := (0 : Int32)) dX4_countBelow_0 (by decide) ?_
  refine hs_istore_n (lv' := [(2, .int (0 : Int32)), (0, .ref x0), (1, .int x1)]) dX4_countBelow_1 (by decide) rfl ?_
  refine hs_iconst (v := (0 : Int32)) dX4_countBelow_2 (by decide) ?_
  refine hs_istore_n (lv' := [(3, .int (0 : Int32)), (2, .int (0 : Int32)), (0, .ref x0), (1, .int x1)]) dX4_countBelow_3 (by decide) rfl ?_
  refine hs_sub (lv' := [(0, .ref x0), (1, .int x1), (2, .int (0 : Int32)), (3, .int (0 : Int32))]) [2, 3, 1, 0] rfl ?_
  exact c_X4_countBelow_b4 hb_FU _ _ _ _ _ _ h
def mX4_classFact : hb_Y := (yX4_classFact, cX4_classFact, 3, (some .int), [], false)
set_option maxHeartbeats 4000000 in
set_option maxRecDepth 20000 in
theorem c_X4_classFact {G : hb_G} {l : Launch} {z : Bool} {x0 : Nat} {x1 : Int32} {x2 : Int32} {σ : hb_M} {r : (Int32 × hb_M)} (h : f_X4_classFact x0 x1 x2 σ = some r) : hb_Call G l z 2 0 0 mX4_classFact [.ref x0, .int x1, .int x2] σ (.inl (some (.int r.1)), r.2) := by
  refine hb_met (by decide) (Nat.le_of_ble_eq_true rfl) ?_
  unfold f_X4_classFact at h
  refine hs_iload_n dX4_classFact_0 2 rfl ?_
  by_cases hc1 : x2 = (0 : Int32)
  · rw [if_pos hc1] at h
    refine hs_tblC (tgt := 28) (off := 27) (0 : Int32) dX4_classFact_1 hc1 (by decide) (by decide) (by decide) (by decide) ?_
    refine hs_aload_n dX4_classFact_28 0 rfl ?_
    obtain ⟨r2, h2, h⟩ := hb_bind h
    refine hs_getR dX4_classFact_29 lkX4_9 rfl h2 ?_
    refine hs_iload_n dX4_classFact_32 1 rfl ?_
    obtain ⟨r3, h3, h⟩ := hb_bind h
    refine hs_iald dX4_classFact_33 h3 ?_
    obtain rfl := Option.some.inj h
    exact hs_ireturn dX4_classFact_34 rfl (by rfl) (fun _ => rfl)
  rw [if_neg hc1] at h
  by_cases hc4 : x2 = (1 : Int32)
  · rw [if_pos hc4] at h
    refine hs_tblC (tgt := 35) (off := 34) (1 : Int32) dX4_classFact_1 hc4 (by decide) (by decide) (by decide) (by decide) ?_
    refine hs_aload_n dX4_classFact_35 0 rfl ?_
    obtain ⟨r5, h5, h⟩ := hb_bind h
    refine hs_getR dX4_classFact_36 lkX4_15 rfl h5 ?_
    refine hs_iload_n dX4_classFact_39 1 rfl ?_
    obtain ⟨r6, h6, h⟩ := hb_bind h
    refine hs_iald dX4_classFact_40 h6 ?_
    obtain rfl := Option.some.inj h
    exact hs_ireturn dX4_classFact_41 rfl (by rfl) (fun _ => rfl)
  rw [if_neg hc4] at h
  by_cases hc7 : x2 = (2 : Int32)
  · rw [if_pos hc7] at h
    refine hs_tblC (tgt := 42) (off := 41) (2 : Int32) dX4_classFact_1 hc7 (by decide) (by decide) (by decide) (by decide) ?_
    refine hs_aload_n dX4_classFact_42 0 rfl ?_
    refine hs_iload_n dX4_classFact_43 1 rfl ?_
    obtain ⟨r8, h8, h⟩ := hb_bind h
    obtain ⟨h8, nf8, hb8⟩ := hb_on_at h8
    refine hs_callVi (μ' := mX4_sizeOfInstance) (mc := 0) (ms := 0) (rc := 0) (rs := 0) (As := [.int x1]) (rest := []) (ci := 4) dX4_classFact_44 lmX4_90 okX4_sizeOfInstance rfl (by decide) rfl (Nat.le_of_ble_eq_true rfl) rfl hb8 (c_X4_sizeOfInstance h8) ?_
    obtain rfl := Option.some.inj h
    exact hs_ireturn dX4_classFact_47 rfl (by rfl) (fun _ => rfl)
  rw [if_neg hc7] at h
  refine hs_tblD (tgt := 48) [(0 : Int32), (1 : Int32), (2 : Int32)] dX4_classFact_1 (by simp only [List.mem_cons, List.not_mem_nil, or_false, forall_eq_or_imp, forall_eq]; exact ⟨hc1, hc4, hc7⟩) (by decide) (by decide) (by decide) ?_
  refine hs_aload_n dX4_classFact_48 0 rfl ?_
  refine hs_iload_n dX4_classFact_49 1 rfl ?_
  obtain ⟨r9, h9, h⟩ := hb_bind h
  obtain ⟨h9, nf9, hb9⟩ := hb_on_at h9
  refine hs_callVi (μ' := mX4_countBelow) (mc := 0) (ms := 0) (rc := 0) (rs := 0) (As := [.int x1]) (rest := []) (ci := 4) dX4_classFact_50 lmX4_131 okX4_countBelow rfl (by decide) rfl (Nat.le_of_ble_eq_true rfl) rfl hb9 (c_X4_countBelow h9) ?_
  obtain rfl := Option.some.inj h
  exact hs_ireturn dX4_classFact_53 rfl (by rfl) (fun _ => rfl)
def mX4_isBelow : hb_Y := (yX4_isBelow, cX4_isBelow, 5, (some .boolean), [], false)
theorem okX4_isBelow : hb_okV mX4_isBelow 2 := ⟨⟨hb_w 2 (by decide +kernel) (by decide +kernel), hb_w 531 (by decide +kernel) (by decide +kernel), ⟨by decide +kernel, by decide +kernel, by decide +kernel⟩, by decide⟩, hb_w 529 (by decide +kernel) (by decide +kernel), hb_w 530 (by decide +kernel) (by decide +kernel)⟩
set_option maxHeartbeats 4000000 in
set_option maxRecDepth 20000 in
theorem c_X4_isBelow_b5 {G : hb_G} {l : Launch} {z : Bool} : ∀ (n : Nat) (x0 : Nat) (x2 : Int32) (x3 : Int32) (x4 : Int32) (σ : hb_M) (r : (Int32 × hb_M)), f_X4_isBelow_b5 n x0 x2 x3 x4 σ = some r → hb_T G l z mX4_isBelow 0 0 0 5 [(0, .ref x0), (2, .int x2), (3, .int x3), (4, .int x4)] [] σ (.inl (some (.int r.1)), r.2) := by
  intro n
  induction n with
  | zero =>
    intro x0 x2 x3 x4 σ r h
    cases h
  | succ n ih =>
    intro x0 x2 x3 x4 σ r h
    rw [f_X4_isBelow_b5] at h
    refine hs_iload dX4_isBelow_5 3 rfl ?_
    refine hs_bipush (v := (10 : Int32)) dX4_isBelow_7 (by decide) ?_
    refine hs_icmp_ge (tgt := 44) dX4_isBelow_9 (by decide) (fun hc1 => ?_) (fun hc1 => ?_)
    · rw [if_pos hc1] at h
      refine hs_iconst (v := (0 : Int32)) dX4_isBelow_44 (by decide) ?_
      obtain rfl := Option.some.inj h
      exact hs_ireturn dX4_isBelow_45 rfl (by decide) (fun _ => rfl)
    · rw [if_neg hc1] at h
      refine hs_iload_n dX4_isBelow_12 2 rfl ?_
      refine hs_if_lt (tgt := 44) dX4_isBelow_13 (by decide) (fun hc2 => ?_) (fun hc2 => ?_)
      · rw [if_pos hc2] at h
        refine hs_iconst (v := (0 : Int32)) dX4_isBelow_44 (by decide) ?_
        obtain rfl := Option.some.inj h
        exact hs_ireturn dX4_isBelow_45 rfl (by decide) (fun _ => rfl)
      · rw [if_neg hc2] at h
        refine hs_iload_n dX4_isBelow_16 2 rfl ?_
        refine hs_aload_n dX4_isBelow_17 0 rfl ?_
        obtain ⟨r3, h3, h⟩ := hb_bind h
        refine hs_getI dX4_isBelow_18 lkX4_42 rfl h3 ?_
        refine hs_icmp_ge (tgt := 44) dX4_isBelow_21 (by decide) (fun hc4 => ?_) (fun hc4 => ?_)
        · rw [if_pos hc4] at h
          refine hs_iconst (v := (0 : Int32)) dX4_isBelow_44 (by decide) ?_
          obtain rfl := Option.some.inj h
          exact hs_ireturn dX4_isBelow_45 rfl (by decide) (fun _ => rfl)
        · rw [if_neg hc4] at h
          refine hs_iload_n dX4_isBelow_24 2 rfl ?_
          refine hs_iload_n dX4_isBelow_25 1 rfl ?_
          refine hs_icmp_ne (tgt := 31) dX4_isBelow_26 (by decide) (fun hc5 => ?_) (fun hc5 => ?_)
          · rw [if_neg hc5] at h
            refine hs_aload_n dX4_isBelow_31 0 rfl ?_
            obtain ⟨r6, h6, h⟩ := hb_bind h
            refine hs_getR dX4_isBelow_32 lkX4_9 rfl h6 ?_
            refine hs_iload_n dX4_isBelow_35 2 rfl ?_
            obtain ⟨r7, h7, h⟩ := hb_bind h
            refine hs_iald dX4_isBelow_36 h7 ?_
            refine hs_istore_n (lv' := [(3, .int r7), (0, .ref x0), (2, .int x2), (4, .int x4)]) dX4_isBelow_37 (by decide) rfl ?_
            refine hs_iinc2 (k := (1 : Int32)) (lv' := [(4, .int (x4 + (1 : Int32))), (3, .int r7), (0, .ref x0), (2, .int x2)]) dX4_isBelow_38 (by decide) 3 rfl (by decide) rfl ?_
            refine hs_goto (tgt := 5) dX4_isBelow_41 (by decide) ?_
            refine hs_sub (lv' := [(0, .ref x0), (2, .int x2), (3, .int r7), (4, .int (x4 + (1 : Int32)))]) [2, 3, 1, 0] rfl ?_
            exact ih _ _ _ _ _ _ h
          · rw [if_pos hc5] at h
            refine hs_iconst (v := (1 : Int32)) dX4_isBelow_29 (by decide) ?_
            obtain rfl := Option.some.inj h
            exact hs_ireturn dX4_isBelow_30 rfl (by decide) (fun _ => rfl)
set_option maxHeartbeats 4000000 in
set_option maxRecDepth 20000 in
theorem c_X4_isBelow {G : hb_G} {l : Launch} {z : Bool} {x0 : Nat} {x1 : Int32} {x2 : Int32} {σ : hb_M} {r : (Int32 × hb_M)} (h : f_X4_isBelow x0 x1 x2 σ = some r) : hb_Call G l z 0 0 0 mX4_isBelow [.ref x0, .int x1, .int x2] σ (.inl (some (.int r.1)), r.2) := by
  refine hb_met (by decide) (Nat.le_of_ble_eq_true rfl) ?_
  unfold f_X4_isBelow at h
  refine hs_iload_n dX4_isBelow_0 1 rfl ?_
  refine hs_istore_n (lv' := [(3, .int x1), (0, .ref x0), (1, .int x1), (2, .int x2)]) dX4_isBelow_1 (by decide) rfl ?_
  refine hs_iconst (v := (0 : Int32)) dX4_isBelow_2 (by decide) ?_
  refine hs_istore (lv' := [(4, .int (0 : Int32)), (3, .int x1), (0, .ref x0), (1, .int x1), (2, .int x2)]) dX4_isBelow_3 (by decide) rfl ?_
  refine hs_sub (lv' := [(0, .ref x0), (2, .int x2), (3, .int x1), (4, .int (0 : Int32))]) [2, 4, 1, 0] rfl ?_
  exact c_X4_isBelow_b5 hb_FU _ _ _ _ _ _ h
def mX4_objectFact : hb_Y := (yX4_objectFact, cX4_objectFact, 3, (some .int), [], false)
set_option maxHeartbeats 4000000 in
set_option maxRecDepth 20000 in
theorem c_X4_objectFact {G : hb_G} {l : Launch} {z : Bool} {x0 : Nat} {x1 : Int32} {x2 : Int32} {σ : hb_M} {r : (Int32 × hb_M)} (h : f_X4_objectFact x0 x1 x2 σ = some r) : hb_Call G l z 0 0 0 mX4_objectFact [.ref x0, .int x1, .int x2] σ (.inl (some (.int r.1)), r.2) := by
  refine hb_met (by decide) (Nat.le_of_ble_eq_true rfl) ?_
  unfold f_X4_objectFact at h
  refine hs_iload_n dX4_objectFact_0 2 rfl ?_
  by_cases hc1 : x2 = (0 : Int32)
  · rw [if_pos hc1] at h
    refine hs_tblC (tgt := 36) (off := 35) (0 : Int32) dX4_objectFact_1 hc1 (by decide) (by decide) (by decide) (by decide) ?_
    refine hs_aload_n dX4_objectFact_36 0 rfl ?_
    obtain ⟨r2, h2, h⟩ := hb_bind h
    refine hs_getR dX4_objectFact_37 lkX4_21 rfl h2 ?_
    refine hs_iload_n dX4_objectFact_40 1 rfl ?_
    obtain ⟨r3, h3, h⟩ := hb_bind h
    refine hs_iald dX4_objectFact_41 h3 ?_
    obtain rfl := Option.some.inj h
    exact hs_ireturn dX4_objectFact_42 rfl (by rfl) (fun _ => rfl)
  rw [if_neg hc1] at h
  by_cases hc4 : x2 = (1 : Int32)
  · rw [if_pos hc4] at h
    refine hs_tblC (tgt := 43) (off := 42) (1 : Int32) dX4_objectFact_1 hc4 (by decide) (by decide) (by decide) (by decide) ?_
    refine hs_aload_n dX4_objectFact_43 0 rfl ?_
    obtain ⟨r5, h5, h⟩ := hb_bind h
    refine hs_getR dX4_objectFact_44 lkX4_24 rfl h5 ?_
    refine hs_iload_n dX4_objectFact_47 1 rfl ?_
    obtain ⟨r6, h6, h⟩ := hb_bind h
    refine hs_iald dX4_objectFact_48 h6 ?_
    obtain rfl := Option.some.inj h
    exact hs_ireturn dX4_objectFact_49 rfl (by rfl) (fun _ => rfl)
  rw [if_neg hc4] at h
  by_cases hc7 : x2 = (2 : Int32)
  · rw [if_pos hc7] at h
    refine hs_tblC (tgt := 50) (off := 49) (2 : Int32) dX4_objectFact_1 hc7 (by decide) (by decide) (by decide) (by decide) ?_
    refine hs_aload_n dX4_objectFact_50 0 rfl ?_
    obtain ⟨r8, h8, h⟩ := hb_bind h
    refine hs_getR dX4_objectFact_51 lkX4_27 rfl h8 ?_
    refine hs_iload_n dX4_objectFact_54 1 rfl ?_
    obtain ⟨r9, h9, h⟩ := hb_bind h
    refine hs_iald dX4_objectFact_55 h9 ?_
    obtain rfl := Option.some.inj h
    exact hs_ireturn dX4_objectFact_56 rfl (by rfl) (fun _ => rfl)
  rw [if_neg hc7] at h
  by_cases hc10 : x2 = (3 : Int32)
  · rw [if_pos hc10] at h
    refine hs_tblC (tgt := 57) (off := 56) (3 : Int32) dX4_objectFact_1 hc10 (by decide) (by decide) (by decide) (by decide) ?_
    refine hs_aload_n dX4_objectFact_57 0 rfl ?_
    obtain ⟨r11, h11, h⟩ := hb_bind h
    refine hs_getR dX4_objectFact_58 lkX4_33 rfl h11 ?_
    refine hs_iload_n dX4_objectFact_61 1 rfl ?_
    obtain ⟨r12, h12, h⟩ := hb_bind h
    refine hs_iald dX4_objectFact_62 h12 ?_
    obtain rfl := Option.some.inj h
    exact hs_ireturn dX4_objectFact_63 rfl (by rfl) (fun _ => rfl)
  rw [if_neg hc10] at h
  by_cases hc13 : x2 = (4 : Int32)
  · rw [if_pos hc13] at h
    refine hs_tblC (tgt := 64) (off := 63) (4 : Int32) dX4_objectFact_1 hc13 (by decide) (by decide) (by decide) (by decide) ?_
    refine hs_aload_n dX4_objectFact_64 0 rfl ?_
    obtain ⟨r14, h14, h⟩ := hb_bind h
    refine hs_getR dX4_objectFact_65 lkX4_30 rfl h14 ?_
    refine hs_iload_n dX4_objectFact_68 1 rfl ?_
    obtain ⟨r15, h15, h⟩ := hb_bind h
    refine hs_iald dX4_objectFact_69 h15 ?_
    obtain rfl := Option.some.inj h
    exact hs_ireturn dX4_objectFact_70 rfl (by rfl) (fun _ => rfl)
  rw [if_neg hc13] at h
  refine hs_tblD (tgt := 71) [(0 : Int32), (1 : Int32), (2 : Int32), (3 : Int32), (4 : Int32)] dX4_objectFact_1 (by simp only [List.mem_cons, List.not_mem_nil, or_false, forall_eq_or_imp, forall_eq]; exact ⟨hc1, hc4, hc7, hc10, hc13⟩) (by decide) (by decide) (by decide) ?_
  refine hs_aload_n dX4_objectFact_71 0 rfl ?_
  obtain ⟨r16, h16, h⟩ := hb_bind h
  refine hs_getR dX4_objectFact_72 lkX4_36 rfl h16 ?_
  refine hs_iload_n dX4_objectFact_75 1 rfl ?_
  obtain ⟨r17, h17, h⟩ := hb_bind h
  refine hs_iald dX4_objectFact_76 h17 ?_
  obtain rfl := Option.some.inj h
  exact hs_ireturn dX4_objectFact_77 rfl (by rfl) (fun _ => rfl)
def mX4_writeReferences : hb_Y := (yX4_writeReferences, cX4_writeReferences, 6, none, [], false)
set_option maxHeartbeats 4000000 in
set_option maxRecDepth 20000 in
theorem c_X4_writeReferences_b79 {G : hb_G} {l : Launch} {z : Bool}  (k2 : Nat → Nat → Int32 → hb_M → Option hb_M) (hk2 : ∀ (x0 : Nat) (x1 : Nat) (x2 : Int32) (σ : hb_M) (r : hb_M), k2 x0 x1 x2 σ = some r → hb_T G l z mX4_writeReferences 0 0 0 2 [(0, .ref x0), (1, .ref x1), (2, .int x2)] [] σ (.inl none, r)) (k43 : Nat → Nat → Int32 → Int32 → Int32 → hb_M → Option hb_M) (hk43 : ∀ (x0 : Nat) (x1 : Nat) (x2 : Int32) (x3 : Int32) (x4 : Int32) (σ : hb_M) (r : hb_M), k43 x0 x1 x2 x3 x4 σ = some r → hb_T G l z mX4_writeReferences 0 0 0 43 [(0, .ref x0), (1, .ref x1), (2, .int x2), (3, .int x3), (4, .int x4)] [] σ (.inl none, r))  {x0 : Nat} {x1 : Nat} {x2 : Int32} {x3 : Int32} {x4 : Int32} {s0 : Nat} {s1 : Int32} {s2 : Int32} {σ : hb_M} {r : hb_M} (h : f_X4_writeReferences_b79 k2 k43 x0 x1 x2 x3 x4 s0 s1 s2 σ = some r) : hb_T G l z mX4_writeReferences 0 0 0 79 [(0, .ref x0), (1, .ref x1), (2, .int x2), (3, .int x3), (4, .int x4)] [.int s2, .int s1, .ref s0] σ (.inl none, r) := by
  unfold f_X4_writeReferences_b79 at h
  obtain ⟨r1, h1, h⟩ := hb_bind h
  refine hs_iast dX4_writeReferences_79 h1 ?_
  refine hs_iinc2 (k := (1 : Int32)) (lv' := [(4, .int (x4 + (1 : Int32))), (0, .ref x0), (1, .ref x1), (2, .int x2), (3, .int x3)]) dX4_writeReferences_80 (by decide) 4 rfl (by decide) rfl ?_
  refine hs_goto (tgt := 43) dX4_writeReferences_83 (by decide) ?_
  refine hs_sub (lv' := [(0, .ref x0), (1, .ref x1), (2, .int x2), (3, .int x3), (4, .int (x4 + (1 : Int32)))]) [1, 2, 3, 4, 0] rfl ?_
  exact hk43 _ _ _ _ _ _ _ h
set_option maxHeartbeats 4000000 in
set_option maxRecDepth 20000 in
theorem c_X4_writeReferences_b43 {G : hb_G} {l : Launch} {z : Bool}  (k2 : Nat → Nat → Int32 → hb_M → Option hb_M) (hk2 : ∀ (x0 : Nat) (x1 : Nat) (x2 : Int32) (σ : hb_M) (r : hb_M), k2 x0 x1 x2 σ = some r → hb_T G l z mX4_writeReferences 0 0 0 2 [(0, .ref x0), (1, .ref x1), (2, .int x2)] [] σ (.inl none, r)) : ∀ (n : Nat) (x0 : Nat) (x1 : Nat) (x2 : Int32) (x3 : Int32) (x4 : Int32) (σ : hb_M) (r : hb_M), f_X4_writeReferences_b43 k2 n x0 x1 x2 x3 x4 σ = some r → hb_T G l z mX4_writeReferences 0 0 0 43 [(0, .ref x0), (1, .ref x1), (2, .int x2), (3, .int x3), (4, .int x4)] [] σ (.inl none, r) := by
  intro n
  induction n with
  | zero =>
    intro x0 x1 x2 x3 x4 σ r h
    cases h
  | succ n ih =>
    intro x0 x1 x2 x3 x4 σ r h
    rw [f_X4_writeReferences_b43] at h
    refine hs_iload dX4_writeReferences_43 4 rfl ?_
    refine hs_bipush (v := (8 : Int32)) dX4_writeReferences_45 (by decide) ?_
    refine hs_icmp_ge (tgt := 86) dX4_writeReferences_47 (by decide) (fun hc1 => ?_) (fun hc1 => ?_)
    · rw [if_pos hc1] at h
      refine hs_iinc2 (k := (1 : Int32)) (lv' := [(2, .int (x2 + (1 : Int32))), (0, .ref x0), (1, .ref x1), (3, .int x3), (4, .int x4)]) dX4_writeReferences_86 (by decide) 2 rfl (by decide) rfl ?_
      refine hs_goto (tgt := 2) dX4_writeReferences_89 (by decide) ?_
      refine hs_sub (lv' := [(0, .ref x0), (1, .ref x1), (2, .int (x2 + (1 : Int32)))]) [1, 2, 0] rfl ?_
      exact hk2 _ _ _ _ _ h
    · rw [if_neg hc1] at h
      refine hs_iload_n dX4_writeReferences_50 2 rfl ?_
      refine hs_bipush (v := (8 : Int32)) dX4_writeReferences_51 (by decide) ?_
      refine hs_imul dX4_writeReferences_53 ?_
      refine hs_iload dX4_writeReferences_54 4 rfl ?_
      refine hs_iadd dX4_writeReferences_56 ?_
      refine hs_istore (lv' := [(5, .int ((x2 * (8 : Int32)) + x4)), (0, .ref x0), (1, .ref x1), (2, .int x2), (3, .int x3), (4, .int x4)]) dX4_writeReferences_57 (by decide) rfl ?_
      refine hs_aload_n dX4_writeReferences_59 2 rfl ?_
      refine hs_iload dX4_writeReferences_60 0 rfl ?_
      refine hs_iload dX4_writeReferences_62 5 rfl ?_
      refine hs_iload_n dX4_writeReferences_64 4 rfl ?_
      refine hs_icmp_ge (tgt := 78) dX4_writeReferences_65 (by decide) (fun hc2 => ?_) (fun hc2 => ?_)
      · rw [if_pos hc2] at h
        refine hs_iconst (v := (-1 : Int32)) dX4_writeReferences_78 (by decide) ?_
        refine hs_sub (lv' := [(0, .ref x0), (1, .ref x1), (2, .int x2), (3, .int x3), (4, .int x4)]) [1, 2, 3, 4, 5] rfl ?_
        exact c_X4_writeReferences_b79 k2 hk2 (f_X4_writeReferences_b43 k2 n) ih h
      · rw [if_neg hc2] at h
        refine hs_aload_n dX4_writeReferences_68 1 rfl ?_
        obtain ⟨r3, h3, h⟩ := hb_bind h
        refine hs_getR dX4_writeReferences_69 lkX4_39 rfl h3 ?_
        refine hs_iload dX4_writeReferences_72 0 rfl ?_
        obtain ⟨r4, h4, h⟩ := hb_bind h
        refine hs_iald dX4_writeReferences_74 h4 ?_
        refine hs_goto (tgt := 79) dX4_writeReferences_75 (by decide) ?_
        refine hs_sub (lv' := [(0, .ref x0), (1, .ref x1), (2, .int x2), (3, .int x3), (4, .int x4)]) [1, 2, 3, 4, 5] rfl ?_
        exact c_X4_writeReferences_b79 k2 hk2 (f_X4_writeReferences_b43 k2 n) ih h
set_option maxHeartbeats 4000000 in
set_option maxRecDepth 20000 in
theorem c_X4_writeReferences_b39 {G : hb_G} {l : Launch} {z : Bool}  (k2 : Nat → Nat → Int32 → hb_M → Option hb_M) (hk2 : ∀ (x0 : Nat) (x1 : Nat) (x2 : Int32) (σ : hb_M) (r : hb_M), k2 x0 x1 x2 σ = some r → hb_T G l z mX4_writeReferences 0 0 0 2 [(0, .ref x0), (1, .ref x1), (2, .int x2)] [] σ (.inl none, r))  {x0 : Nat} {x1 : Nat} {x2 : Int32} {s0 : Int32} {σ : hb_M} {r : hb_M} (h : f_X4_writeReferences_b39 k2 x0 x1 x2 s0 σ = some r) : hb_T G l z mX4_writeReferences 0 0 0 39 [(0, .ref x0), (1, .ref x1), (2, .int x2)] [.int s0] σ (.inl none, r) := by
  unfold f_X4_writeReferences_b39 at h
  refine hs_istore_n (lv' := [(3, .int s0), (0, .ref x0), (1, .ref x1), (2, .int x2)]) dX4_writeReferences_39 (by decide) rfl ?_
  refine hs_iconst (v := (0 : Int32)) dX4_writeReferences_40 (by decide) ?_
  refine hs_istore (lv' := [(4, .int (0 : Int32)), (3, .int s0), (0, .ref x0), (1, .ref x1), (2, .int x2)]) dX4_writeReferences_41 (by decide) rfl ?_
  refine hs_sub (lv' := [(0, .ref x0), (1, .ref x1), (2, .int x2), (3, .int s0), (4, .int (0 : Int32))]) [2, 3, 4, 1, 0] rfl ?_
  exact c_X4_writeReferences_b43 k2 hk2 hb_FU _ _ _ _ _ _ _ h
set_option maxHeartbeats 4000000 in
set_option maxRecDepth 20000 in
theorem c_X4_writeReferences_b29 {G : hb_G} {l : Launch} {z : Bool}  (k2 : Nat → Nat → Int32 → hb_M → Option hb_M) (hk2 : ∀ (x0 : Nat) (x1 : Nat) (x2 : Int32) (σ : hb_M) (r : hb_M), k2 x0 x1 x2 σ = some r → hb_T G l z mX4_writeReferences 0 0 0 2 [(0, .ref x0), (1, .ref x1), (2, .int x2)] [] σ (.inl none, r))  {x0 : Nat} {x1 : Nat} {x2 : Int32} {σ : hb_M} {r : hb_M} (h : f_X4_writeReferences_b29 k2 x0 x1 x2 σ = some r) : hb_T G l z mX4_writeReferences 0 0 0 29 [(0, .ref x0), (1, .ref x1), (2, .int x2)] [] σ (.inl none, r) := by
  unfold f_X4_writeReferences_b29 at h
  refine hs_iconst (v := (0 : Int32)) dX4_writeReferences_29 (by decide) ?_
  refine hs_goto (tgt := 39) dX4_writeReferences_30 (by decide) ?_
  refine hs_sub (lv' := [(0, .ref x0), (1, .ref x1), (2, .int x2)]) [0, 1, 2] rfl ?_
  exact c_X4_writeReferences_b39 k2 hk2 h
set_option maxHeartbeats 4000000 in
set_option maxRecDepth 20000 in
theorem c_X4_writeReferences_b2 {G : hb_G} {l : Launch} {z : Bool} : ∀ (n : Nat) (x0 : Nat) (x1 : Nat) (x2 : Int32) (σ : hb_M) (r : hb_M), f_X4_writeReferences_b2 n x0 x1 x2 σ = some r → hb_T G l z mX4_writeReferences 0 0 0 2 [(0, .ref x0), (1, .ref x1), (2, .int x2)] [] σ (.inl none, r) := by
  intro n
  induction n with
  | zero =>
    intro x0 x1 x2 σ r h
    cases h
  | succ n ih =>
    intro x0 x1 x2 σ r h
    rw [f_X4_writeReferences_b2] at h
    refine hs_iload_n dX4_writeReferences_2 2 rfl ?_
    refine hs_bipush (v := (40 : Int32)) dX4_writeReferences_3 (by decide) ?_
    refine hs_icmp_ge (tgt := 92) dX4_writeReferences_5 (by decide) (fun hc1 => ?_) (fun hc1 => ?_)
    · rw [if_pos hc1] at h
      obtain rfl := Option.some.inj h
      exact hs_return dX4_writeReferences_92 rfl (fun _ => rfl)
    · rw [if_neg hc1] at h
      refine hs_aload_n dX4_writeReferences_8 0 rfl ?_
      obtain ⟨r2, h2, h⟩ := hb_bind h
      refine hs_getR dX4_writeReferences_9 lkX4_21 rfl h2 ?_
      refine hs_iload_n dX4_writeReferences_12 2 rfl ?_
      obtain ⟨r3, h3, h⟩ := hb_bind h
      refine hs_iald dX4_writeReferences_13 h3 ?_
      refine hs_iconst (v := (-1 : Int32)) dX4_writeReferences_14 (by decide) ?_
      refine hs_icmp_eq (tgt := 29) dX4_writeReferences_15 (by decide) (fun hc4 => ?_) (fun hc4 => ?_)
      · rw [if_pos hc4] at h
        refine hs_sub (lv' := [(0, .ref x0), (1, .ref x1), (2, .int x2)]) [0, 1, 2] rfl ?_
        exact c_X4_writeReferences_b29 (f_X4_writeReferences_b2 n) ih h
      · rw [if_neg hc4] at h
        refine hs_aload_n dX4_writeReferences_18 0 rfl ?_
        obtain ⟨r5, h5, h⟩ := hb_bind h
        refine hs_getR dX4_writeReferences_19 lkX4_21 rfl h5 ?_
        refine hs_iload_n dX4_writeReferences_22 2 rfl ?_
        obtain ⟨r6, h6, h⟩ := hb_bind h
        refine hs_iald dX4_writeReferences_23 h6 ?_
        refine hs_bipush (v := (11 : Int32)) dX4_writeReferences_24 (by decide) ?_
        refine hs_icmp_ne (tgt := 33) dX4_writeReferences_26 (by decide) (fun hc7 => ?_) (fun hc7 => ?_)
        · rw [if_neg hc7] at h
          refine hs_aload_n dX4_writeReferences_33 0 rfl ?_
          obtain ⟨r8, h8, h⟩ := hb_bind h
          refine hs_getR dX4_writeReferences_34 lkX4_30 rfl h8 ?_
          refine hs_iload_n dX4_writeReferences_37 2 rfl ?_
          obtain ⟨r9, h9, h⟩ := hb_bind h
          refine hs_iald dX4_writeReferences_38 h9 ?_
          refine hs_sub (lv' := [(0, .ref x0), (1, .ref x1), (2, .int x2)]) [0, 1, 2] rfl ?_
          exact c_X4_writeReferences_b39 (f_X4_writeReferences_b2 n) ih h
        · rw [if_pos hc7] at h
          refine hs_sub (lv' := [(0, .ref x0), (1, .ref x1), (2, .int x2)]) [0, 1, 2] rfl ?_
          exact c_X4_writeReferences_b29 (f_X4_writeReferences_b2 n) ih h
set_option maxHeartbeats 4000000 in
set_option maxRecDepth 20000 in
theorem c_X4_writeReferences {G : hb_G} {l : Launch} {z : Bool} {x0 : Nat} {x1 : Nat} {σ : hb_M} {r : hb_M} (h : f_X4_writeReferences x0 x1 σ = some r) : hb_Call G l z 0 0 0 mX4_writeReferences [.ref x0, .ref x1] σ (.inl none, r) := by
  refine hb_met (by decide) (Nat.le_of_ble_eq_true rfl) ?_
  unfold f_X4_writeReferences at h
  refine hs_iconst (v := (0 : Int32)) dX4_writeReferences_0 (by decide) ?_
  refine hs_istore_n (lv' := [(2, .int (0 : Int32)), (0, .ref x0), (1, .ref x1)]) dX4_writeReferences_1 (by decide) rfl ?_
  refine hs_sub (lv' := [(0, .ref x0), (1, .ref x1), (2, .int (0 : Int32))]) [1, 2, 0] rfl ?_
  exact c_X4_writeReferences_b2 hb_FU _ _ _ _ _ h
def mX4_allRoots : hb_Y := (yX4_allRoots, cX4_allRoots, 4, (some .long), [], false)
set_option maxHeartbeats 4000000 in
set_option maxRecDepth 20000 in
theorem c_X4_allRoots_b38 {G : hb_G} {l : Launch} {z : Bool}  (k4 : Nat → Int64 → Int32 → hb_M → Option (Int64 × hb_M)) (hk4 : ∀ (x0 : Nat) (x1 : Int64) (x3 : Int32) (σ : hb_M) (r : (Int64 × hb_M)), k4 x0 x1 x3 σ = some r → hb_T G l z mX4_allRoots 1 0 0 4 [(0, .ref x0), (1, .long x1), (3, .int x3)] [] σ (.inl (some (.long r.1)), r.2))  {x0 : Nat} {x3 : Int32} {s0 : Int64} {s1 : Int64} {σ : hb_M} {r : (Int64 × hb_M)} (h : f_X4_allRoots_b38 k4 x0 x3 s0 s1 σ = some r) : hb_T G l z mX4_allRoots 1 0 0 38 [(0, .ref x0), (3, .int x3)] [.long s1, .long s0] σ (.inl (some (.long r.1)), r.2) := by
  unfold f_X4_allRoots_b38 at h
  refine hs_lor dX4_allRoots_38 ?_
  refine hs_lstore_n (lv' := [(1, .long (s0 ||| s1)), (0, .ref x0), (3, .int x3)]) dX4_allRoots_39 (by decide) rfl ?_
  refine hs_iinc2 (k := (1 : Int32)) (lv' := [(3, .int (x3 + (1 : Int32))), (1, .long (s0 ||| s1)), (0, .ref x0)]) dX4_allRoots_40 (by decide) 2 rfl (by decide) rfl ?_
  refine hs_goto (tgt := 4) dX4_allRoots_43 (by decide) ?_
  refine hs_sub (lv' := [(0, .ref x0), (1, .long (s0 ||| s1)), (3, .int (x3 + (1 : Int32)))]) [2, 1, 0] rfl ?_
  exact hk4 _ _ _ _ _ h
set_option maxHeartbeats 4000000 in
set_option maxRecDepth 20000 in
theorem c_X4_allRoots_b37 {G : hb_G} {l : Launch} {z : Bool}  (k4 : Nat → Int64 → Int32 → hb_M → Option (Int64 × hb_M)) (hk4 : ∀ (x0 : Nat) (x1 : Int64) (x3 : Int32) (σ : hb_M) (r : (Int64 × hb_M)), k4 x0 x1 x3 σ = some r → hb_T G l z mX4_allRoots 1 0 0 4 [(0, .ref x0), (1, .long x1), (3, .int x3)] [] σ (.inl (some (.long r.1)), r.2))  {x0 : Nat} {x3 : Int32} {s0 : Int64} {σ : hb_M} {r : (Int64 × hb_M)} (h : f_X4_allRoots_b37 k4 x0 x3 s0 σ = some r) : hb_T G l z mX4_allRoots 1 0 0 37 [(0, .ref x0), (3, .int x3)] [.long s0] σ (.inl (some (.long r.1)), r.2) := by
  unfold f_X4_allRoots_b37 at h
  refine hs_lconst (v := (0 : Int64)) dX4_allRoots_37 (by decide) ?_
  refine hs_sub (lv' := [(0, .ref x0), (3, .int x3)]) [0, 1] rfl ?_
  exact c_X4_allRoots_b38 k4 hk4 h
set_option maxHeartbeats 4000000 in
set_option maxRecDepth 20000 in
theorem c_X4_allRoots_b4 {G : hb_G} {l : Launch} {z : Bool} : ∀ (n : Nat) (x0 : Nat) (x1 : Int64) (x3 : Int32) (σ : hb_M) (r : (Int64 × hb_M)), f_X4_allRoots_b4 n x0 x1 x3 σ = some r → hb_T G l z mX4_allRoots 1 0 0 4 [(0, .ref x0), (1, .long x1), (3, .int x3)] [] σ (.inl (some (.long r.1)), r.2) := by
  intro n
  induction n with
  | zero =>
    intro x0 x1 x3 σ r h
    cases h
  | succ n ih =>
    intro x0 x1 x3 σ r h
    rw [f_X4_allRoots_b4] at h
    refine hs_iload_n dX4_allRoots_4 2 rfl ?_
    refine hs_bipush (v := (40 : Int32)) dX4_allRoots_5 (by decide) ?_
    refine hs_icmp_ge (tgt := 46) dX4_allRoots_7 (by decide) (fun hc1 => ?_) (fun hc1 => ?_)
    · rw [if_pos hc1] at h
      refine hs_lload_n dX4_allRoots_46 1 rfl ?_
      obtain rfl := Option.some.inj h
      exact hs_lreturn dX4_allRoots_47 rfl (fun _ => rfl)
    · rw [if_neg hc1] at h
      refine hs_lload_n dX4_allRoots_10 1 rfl ?_
      refine hs_aload_n dX4_allRoots_11 0 rfl ?_
      obtain ⟨r2, h2, h⟩ := hb_bind h
      refine hs_getR dX4_allRoots_12 lkX4_21 rfl h2 ?_
      refine hs_iload_n dX4_allRoots_15 2 rfl ?_
      obtain ⟨r3, h3, h⟩ := hb_bind h
      refine hs_iald dX4_allRoots_16 h3 ?_
      refine hs_iconst (v := (-1 : Int32)) dX4_allRoots_17 (by decide) ?_
      refine hs_icmp_eq (tgt := 37) dX4_allRoots_18 (by decide) (fun hc4 => ?_) (fun hc4 => ?_)
      · rw [if_pos hc4] at h
        refine hs_sub (lv' := [(0, .ref x0), (3, .int x3)]) [0, 2] rfl ?_
        exact c_X4_allRoots_b37 (f_X4_allRoots_b4 n) ih h
      · rw [if_neg hc4] at h
        refine hs_aload_n dX4_allRoots_21 0 rfl ?_
        obtain ⟨r5, h5, h⟩ := hb_bind h
        refine hs_getR dX4_allRoots_22 lkX4_36 rfl h5 ?_
        refine hs_iload_n dX4_allRoots_25 2 rfl ?_
        obtain ⟨r6, h6, h⟩ := hb_bind h
        refine hs_iald dX4_allRoots_26 h6 ?_
        refine hs_if_eq (tgt := 37) dX4_allRoots_27 (by decide) (fun hc7 => ?_) (fun hc7 => ?_)
        · rw [if_pos hc7] at h
          refine hs_sub (lv' := [(0, .ref x0), (3, .int x3)]) [0, 2] rfl ?_
          exact c_X4_allRoots_b37 (f_X4_allRoots_b4 n) ih h
        · rw [if_neg hc7] at h
          refine hs_iload_n dX4_allRoots_30 2 rfl ?_
          obtain ⟨r8, h8, h⟩ := hb_bind h
          refine hs_callSNl (μ' := mX8_member) (mc := 0) (ms := 0) (rc := 0) (rs := 0) (As := [.int x3]) (rest := [.long x1]) dX4_allRoots_31 lnX4_137 okX8_member rfl (by decide) rfl (Nat.le_of_ble_eq_true rfl) (c_X8_member h8) ?_
          refine hs_goto (tgt := 38) dX4_allRoots_34 (by decide) ?_
          refine hs_sub (lv' := [(0, .ref x0), (3, .int x3)]) [0, 2] rfl ?_
          exact c_X4_allRoots_b38 (f_X4_allRoots_b4 n) ih h
set_option maxHeartbeats 4000000 in
set_option maxRecDepth 20000 in
theorem c_X4_allRoots {G : hb_G} {l : Launch} {z : Bool} {x0 : Nat} {σ : hb_M} {r : (Int64 × hb_M)} (h : f_X4_allRoots x0 σ = some r) : hb_Call G l z 1 0 0 mX4_allRoots [.ref x0] σ (.inl (some (.long r.1)), r.2) := by
  refine hb_met (by decide) (Nat.le_of_ble_eq_true rfl) ?_
  unfold f_X4_allRoots at h
  refine hs_lconst (v := (0 : Int64)) dX4_allRoots_0 (by decide) ?_
  refine hs_lstore_n (lv' := [(1, .long (0 : Int64)), (0, .ref x0)]) dX4_allRoots_1 (by decide) rfl ?_
  refine hs_iconst (v := (0 : Int32)) dX4_allRoots_2 (by decide) ?_
  refine hs_istore_n (lv' := [(3, .int (0 : Int32)), (1, .long (0 : Int64)), (0, .ref x0)]) dX4_allRoots_3 (by decide) rfl ?_
  refine hs_sub (lv' := [(0, .ref x0), (1, .long (0 : Int64)), (3, .int (0 : Int32))]) [2, 1, 0] rfl ?_
  exact c_X4_allRoots_b4 hb_FU _ _ _ _ _ h
def mX4_membersOf : hb_Y := (yX4_membersOf, cX4_membersOf, 7, (some .long), [], false)
set_option maxHeartbeats 4000000 in
set_option maxRecDepth 20000 in
theorem c_X4_membersOf_b64 {G : hb_G} {l : Launch} {z : Bool}  (k5 : Nat → Int32 → Int32 → Int64 → Int32 → hb_M → Option (Int64 × hb_M)) (hk5 : ∀ (x0 : Nat) (x1 : Int32) (x2 : Int32) (x3 : Int64) (x5 : Int32) (σ : hb_M) (r : (Int64 × hb_M)), k5 x0 x1 x2 x3 x5 σ = some r → hb_T G l z mX4_membersOf 1 0 0 5 [(0, .ref x0), (1, .int x1), (2, .int x2), (3, .long x3), (5, .int x5)] [] σ (.inl (some (.long r.1)), r.2))  {x0 : Nat} {x1 : Int32} {x2 : Int32} {x5 : Int32} {s0 : Int64} {s1 : Int64} {σ : hb_M} {r : (Int64 × hb_M)} (h : f_X4_membersOf_b64 k5 x0 x1 x2 x5 s0 s1 σ = some r) : hb_T G l z mX4_membersOf 1 0 0 64 [(0, .ref x0), (1, .int x1), (2, .int x2), (5, .int x5)] [.long s1, .long s0] σ (.inl (some (.long r.1)), r.2) := by
  unfold f_X4_membersOf_b64 at h
  refine hs_lor dX4_membersOf_64 ?_
  refine hs_lstore_n (lv' := [(3, .long (s0 ||| s1)), (0, .ref x0), (1, .int x1), (2, .int x2), (5, .int x5)]) dX4_membersOf_65 (by decide) rfl ?_
  refine hs_iinc2 (k := (1 : Int32)) (lv' := [(5, .int (x5 + (1 : Int32))), (3, .long (s0 ||| s1)), (0, .ref x0), (1, .int x1), (2, .int x2)]) dX4_membersOf_66 (by decide) 4 rfl (by decide) rfl ?_
  refine hs_goto (tgt := 5) dX4_membersOf_69 (by decide) ?_
  refine hs_sub (lv' := [(0, .ref x0), (1, .int x1), (2, .int x2), (3, .long (s0 ||| s1)), (5, .int (x5 + (1 : Int32)))]) [2, 3, 4, 1, 0] rfl ?_
  exact hk5 _ _ _ _ _ _ _ h
set_option maxHeartbeats 4000000 in
set_option maxRecDepth 20000 in
theorem c_X4_membersOf_b47 {G : hb_G} {l : Launch} {z : Bool}  (k5 : Nat → Int32 → Int32 → Int64 → Int32 → hb_M → Option (Int64 × hb_M)) (hk5 : ∀ (x0 : Nat) (x1 : Int32) (x2 : Int32) (x3 : Int64) (x5 : Int32) (σ : hb_M) (r : (Int64 × hb_M)), k5 x0 x1 x2 x3 x5 σ = some r → hb_T G l z mX4_membersOf 1 0 0 5 [(0, .ref x0), (1, .int x1), (2, .int x2), (3, .long x3), (5, .int x5)] [] σ (.inl (some (.long r.1)), r.2))  {x0 : Nat} {x1 : Int32} {x2 : Int32} {x3 : Int64} {x5 : Int32} {s0 : Int32} {σ : hb_M} {r : (Int64 × hb_M)} (h : f_X4_membersOf_b47 k5 x0 x1 x2 x3 x5 s0 σ = some r) : hb_T G l z mX4_membersOf 1 0 0 47 [(0, .ref x0), (1, .int x1), (2, .int x2), (3, .long x3), (5, .int x5)] [.int s0] σ (.inl (some (.long r.1)), r.2) := by
  unfold f_X4_membersOf_b47 at h
  refine hs_istore (lv' := [(6, .int s0), (0, .ref x0), (1, .int x1), (2, .int x2), (3, .long x3), (5, .int x5)]) dX4_membersOf_47 (by decide) rfl ?_
  refine hs_lload_n dX4_membersOf_49 4 rfl ?_
  refine hs_iload dX4_membersOf_50 0 rfl ?_
  refine hs_if_eq (tgt := 63) dX4_membersOf_52 (by decide) (fun hc1 => ?_) (fun hc1 => ?_)
  · rw [if_pos hc1] at h
    refine hs_lconst (v := (0 : Int64)) dX4_membersOf_63 (by decide) ?_
    refine hs_sub (lv' := [(0, .ref x0), (1, .int x1), (2, .int x2), (5, .int x5)]) [1, 2, 3, 5] rfl ?_
    exact c_X4_membersOf_b64 k5 hk5 h
  · rw [if_neg hc1] at h
    refine hs_iload dX4_membersOf_55 5 rfl ?_
    obtain ⟨r2, h2, h⟩ := hb_bind h
    refine hs_callSNl (μ' := mX8_member) (mc := 0) (ms := 0) (rc := 0) (rs := 0) (As := [.int x5]) (rest := [.long x3]) dX4_membersOf_57 lnX4_137 okX8_member rfl (by decide) rfl (Nat.le_of_ble_eq_true rfl) (c_X8_member h2) ?_
    refine hs_goto (tgt := 64) dX4_membersOf_60 (by decide) ?_
    refine hs_sub (lv' := [(0, .ref x0), (1, .int x1), (2, .int x2), (5, .int x5)]) [1, 2, 3, 5] rfl ?_
    exact c_X4_membersOf_b64 k5 hk5 h
set_option maxHeartbeats 4000000 in
set_option maxRecDepth 20000 in
theorem c_X4_membersOf_b42 {G : hb_G} {l : Launch} {z : Bool}  (k5 : Nat → Int32 → Int32 → Int64 → Int32 → hb_M → Option (Int64 × hb_M)) (hk5 : ∀ (x0 : Nat) (x1 : Int32) (x2 : Int32) (x3 : Int64) (x5 : Int32) (σ : hb_M) (r : (Int64 × hb_M)), k5 x0 x1 x2 x3 x5 σ = some r → hb_T G l z mX4_membersOf 1 0 0 5 [(0, .ref x0), (1, .int x1), (2, .int x2), (3, .long x3), (5, .int x5)] [] σ (.inl (some (.long r.1)), r.2))  {x0 : Nat} {x1 : Int32} {x2 : Int32} {x3 : Int64} {x5 : Int32} {σ : hb_M} {r : (Int64 × hb_M)} (h : f_X4_membersOf_b42 k5 x0 x1 x2 x3 x5 σ = some r) : hb_T G l z mX4_membersOf 1 0 0 42 [(0, .ref x0), (1, .int x1), (2, .int x2), (3, .long x3), (5, .int x5)] [] σ (.inl (some (.long r.1)), r.2) := by
  unfold f_X4_membersOf_b42 at h
  refine hs_iconst (v := (1 : Int32)) dX4_membersOf_42 (by decide) ?_
  refine hs_goto (tgt := 47) dX4_membersOf_43 (by decide) ?_
  refine hs_sub (lv' := [(0, .ref x0), (1, .int x1), (2, .int x2), (3, .long x3), (5, .int x5)]) [0, 1, 2, 3, 4] rfl ?_
  exact c_X4_membersOf_b47 k5 hk5 h
set_option maxHeartbeats 4000000 in
set_option maxRecDepth 20000 in
theorem c_X4_membersOf_b46 {G : hb_G} {l : Launch} {z : Bool}  (k5 : Nat → Int32 → Int32 → Int64 → Int32 → hb_M → Option (Int64 × hb_M)) (hk5 : ∀ (x0 : Nat) (x1 : Int32) (x2 : Int32) (x3 : Int64) (x5 : Int32) (σ : hb_M) (r : (Int64 × hb_M)), k5 x0 x1 x2 x3 x5 σ = some r → hb_T G l z mX4_membersOf 1 0 0 5 [(0, .ref x0), (1, .int x1), (2, .int x2), (3, .long x3), (5, .int x5)] [] σ (.inl (some (.long r.1)), r.2))  {x0 : Nat} {x1 : Int32} {x2 : Int32} {x3 : Int64} {x5 : Int32} {σ : hb_M} {r : (Int64 × hb_M)} (h : f_X4_membersOf_b46 k5 x0 x1 x2 x3 x5 σ = some r) : hb_T G l z mX4_membersOf 1 0 0 46 [(0, .ref x0), (1, .int x1), (2, .int x2), (3, .long x3), (5, .int x5)] [] σ (.inl (some (.long r.1)), r.2) := by
  unfold f_X4_membersOf_b46 at h
  refine hs_iconst (v := (0 : Int32)) dX4_membersOf_46 (by decide) ?_
  refine hs_sub (lv' := [(0, .ref x0), (1, .int x1), (2, .int x2), (3, .long x3), (5, .int x5)]) [0, 1, 2, 3, 4] rfl ?_
  exact c_X4_membersOf_b47 k5 hk5 h
set_option maxHeartbeats 4000000 in
set_option maxRecDepth 20000 in
theorem c_X4_membersOf_b5 {G : hb_G} {l : Launch} {z : Bool} : ∀ (n : Nat) (x0 : Nat) (x1 : Int32) (x2 : Int32) (x3 : Int64) (x5 : Int32) (σ : hb_M) (r : (Int64 × hb_M)), f_X4_membersOf_b5 n x0 x1 x2 x3 x5 σ = some r → hb_T G l z mX4_membersOf 1 0 0 5 [(0, .ref x0), (1, .int x1), (2, .int x2), (3, .long x3), (5, .int x5)] [] σ (.inl (some (.long r.1)), r.2) := by
  intro n
  induction n with
  | zero =>
    intro x0 x1 x2 x3 x5 σ r h
    cases h
  | succ n ih =>
    intro x0 x1 x2 x3 x5 σ r h
    rw [f_X4_membersOf_b5] at h
    refine hs_iload dX4_membersOf_5 4 rfl ?_
    refine hs_bipush (v := (40 : Int32)) dX4_membersOf_7 (by decide) ?_
    refine hs_icmp_ge (tgt := 72) dX4_membersOf_9 (by decide) (fun hc1 => ?_) (fun hc1 => ?_)
    · rw [if_pos hc1] at h
      refine hs_lload_n dX4_membersOf_72 3 rfl ?_
      obtain rfl := Option.some.inj h
      exact hs_lreturn dX4_membersOf_73 rfl (fun _ => rfl)
    · rw [if_neg hc1] at h
      refine hs_aload_n dX4_membersOf_12 0 rfl ?_
      obtain ⟨r2, h2, h⟩ := hb_bind h
      refine hs_getR dX4_membersOf_13 lkX4_21 rfl h2 ?_
      refine hs_iload dX4_membersOf_16 4 rfl ?_
      obtain ⟨r3, h3, h⟩ := hb_bind h
      refine hs_iald dX4_membersOf_18 h3 ?_
      refine hs_iload_n dX4_membersOf_19 1 rfl ?_
      refine hs_icmp_eq (tgt := 42) dX4_membersOf_20 (by decide) (fun hc4 => ?_) (fun hc4 => ?_)
      · rw [if_pos hc4] at h
        refine hs_sub (lv' := [(0, .ref x0), (1, .int x1), (2, .int x2), (3, .long x3), (5, .int x5)]) [0, 1, 2, 3, 4] rfl ?_
        exact c_X4_membersOf_b42 (f_X4_membersOf_b5 n) ih h
      · rw [if_neg hc4] at h
        refine hs_iload_n dX4_membersOf_23 2 rfl ?_
        refine hs_if_eq (tgt := 46) dX4_membersOf_24 (by decide) (fun hc5 => ?_) (fun hc5 => ?_)
        · rw [if_pos hc5] at h
          refine hs_sub (lv' := [(0, .ref x0), (1, .int x1), (2, .int x2), (3, .long x3), (5, .int x5)]) [0, 1, 2, 3, 4] rfl ?_
          exact c_X4_membersOf_b46 (f_X4_membersOf_b5 n) ih h
        · rw [if_neg hc5] at h
          refine hs_aload_n dX4_membersOf_27 0 rfl ?_
          refine hs_aload_n dX4_membersOf_28 0 rfl ?_
          obtain ⟨r6, h6, h⟩ := hb_bind h
          refine hs_getR dX4_membersOf_29 lkX4_21 rfl h6 ?_
          refine hs_iload dX4_membersOf_32 4 rfl ?_
          obtain ⟨r7, h7, h⟩ := hb_bind h
          refine hs_iald dX4_membersOf_34 h7 ?_
          refine hs_iload_n dX4_membersOf_35 1 rfl ?_
          obtain ⟨r8, h8, h⟩ := hb_bind h
          obtain ⟨h8, nf8, hb8⟩ := hb_on_at h8
          refine hs_callVi (μ' := mX4_isBelow) (mc := 0) (ms := 0) (rc := 0) (rs := 0) (As := [.int r7, .int x1]) (rest := []) (ci := 4) dX4_membersOf_36 lmX4_146 okX4_isBelow rfl (by decide) rfl (Nat.le_of_ble_eq_true rfl) rfl hb8 (c_X4_isBelow h8) ?_
          refine hs_if_eq (tgt := 46) dX4_membersOf_39 (by decide) (fun hc9 => ?_) (fun hc9 => ?_)
          · rw [if_pos hc9] at h
            refine hs_sub (lv' := [(0, .ref x0), (1, .int x1), (2, .int x2), (3, .long x3), (5, .int x5)]) [0, 1, 2, 3, 4] rfl ?_
            exact c_X4_membersOf_b46 (f_X4_membersOf_b5 n) ih h
          · rw [if_neg hc9] at h
            refine hs_sub (lv' := [(0, .ref x0), (1, .int x1), (2, .int x2), (3, .long x3), (5, .int x5)]) [0, 1, 2, 3, 4] rfl ?_
            exact c_X4_membersOf_b42 (f_X4_membersOf_b5 n) ih h
set_option maxHeartbeats 4000000 in
set_option maxRecDepth 20000 in
theorem c_X4_membersOf {G : hb_G} {l : Launch} {z : Bool} {x0 : Nat} {x1 : Int32} {x2 : Int32} {σ : hb_M} {r : (Int64 × hb_M)} (h : f_X4_membersOf x0 x1 x2 σ = some r) : hb_Call G l z 1 0 0 mX4_membersOf [.ref x0, .int x1, .int x2] σ (.inl (some (.long r.1)), r.2) := by
  refine hb_met (by decide) (Nat.le_of_ble_eq_true rfl) ?_
  unfold f_X4_membersOf at h
  refine hs_lconst (v := (0 : Int64)) dX4_membersOf_0 (by decide) ?_
  refine hs_lstore_n (lv' := [(3, .long (0 : Int64)), (0, .ref x0), (1, .int x1), (2, .int x2)]) dX4_membersOf_1 (by decide) rfl ?_
  refine hs_iconst (v := (0 : Int32)) dX4_membersOf_2 (by decide) ?_
  refine hs_istore (lv' := [(5, .int (0 : Int32)), (3, .long (0 : Int64)), (0, .ref x0), (1, .int x1), (2, .int x2)]) dX4_membersOf_3 (by decide) rfl ?_
  refine hs_sub (lv' := [(0, .ref x0), (1, .int x1), (2, .int x2), (3, .long (0 : Int64)), (5, .int (0 : Int32))]) [2, 3, 4, 1, 0] rfl ?_
  exact c_X4_membersOf_b5 hb_FU _ _ _ _ _ _ _ h
def mX4_objectWithSerial : hb_Y := (yX4_objectWithSerial, cX4_objectWithSerial, 3, (some .int), [], false)
theorem okX4_objectWithSerial : hb_okV mX4_objectWithSerial 1 := ⟨⟨hb_w 2 (by decide +kernel) (by decide +kernel), hb_w 1280 (by decide +kernel) (by decide +kernel), ⟨by decide +kernel, by decide +kernel, by decide +kernel⟩, by decide⟩, hb_w 1279 (by decide +kernel) (by decide +kernel), hb_wp (q := (yX4_objectWithSerial, 13)) 31 (by decide +kernel) (by decide +kernel)⟩
set_option maxHeartbeats 4000000 in
set_option maxRecDepth 20000 in
theorem c_X4_objectWithSerial_b30 {G : hb_G} {l : Launch} {z : Bool}  (k2 : Nat → Int32 → Int32 → hb_M → Option (Int32 × hb_M)) (hk2 : ∀ (x0 : Nat) (x1 : Int32) (x2 : Int32) (σ : hb_M) (r : (Int32 × hb_M)), k2 x0 x1 x2 σ = some r → hb_T G l z mX4_objectWithSerial 0 0 0 2 [(0, .ref x0), (1, .int x1), (2, .int x2)] [] σ (.inl (some (.int r.1)), r.2))  {x0 : Nat} {x1 : Int32} {x2 : Int32} {σ : hb_M} {r : (Int32 × hb_M)} (h : f_X4_objectWithSerial_b30 k2 x0 x1 x2 σ = some r) : hb_T G l z mX4_objectWithSerial 0 0 0 30 [(0, .ref x0), (1, .int x1), (2, .int x2)] [] σ (.inl (some (.int r.1)), r.2) := by
  unfold f_X4_objectWithSerial_b30 at h
  refine hs_iinc2 (k := (1 : Int32)) (lv' := [(2, .int (x2 + (1 : Int32))), (0, .ref x0), (1, .int x1)]) dX4_objectWithSerial_30 (by decide) 2 rfl (by decide) rfl ?_
  refine hs_goto (tgt := 2) dX4_objectWithSerial_33 (by decide) ?_
  refine hs_sub (lv' := [(0, .ref x0), (1, .int x1), (2, .int (x2 + (1 : Int32)))]) [1, 2, 0] rfl ?_
  exact hk2 _ _ _ _ _ h
set_option maxHeartbeats 4000000 in
set_option maxRecDepth 20000 in
theorem c_X4_objectWithSerial_b2 {G : hb_G} {l : Launch} {z : Bool} : ∀ (n : Nat) (x0 : Nat) (x1 : Int32) (x2 : Int32) (σ : hb_M) (r : (Int32 × hb_M)), f_X4_objectWithSerial_b2 n x0 x1 x2 σ = some r → hb_T G l z mX4_objectWithSerial 0 0 0 2 [(0, .ref x0), (1, .int x1), (2, .int x2)] [] σ (.inl (some (.int r.1)), r.2) := by
  intro n
  induction n with
  | zero =>
    intro x0 x1 x2 σ r h
    cases h
  | succ n ih =>
    intro x0 x1 x2 σ r h
    rw [f_X4_objectWithSerial_b2] at h
    refine hs_iload_n dX4_objectWithSerial_2 2 rfl ?_
    refine hs_bipush (v := (40 : Int32)) dX4_objectWithSerial_3 (by decide) ?_
    refine hs_icmp_ge (tgt := 36) dX4_objectWithSerial_5 (by decide) (fun hc1 => ?_) (fun hc1 => ?_)
    · rw [if_pos hc1] at h
      refine hs_iconst (v := (-1 : Int32)) dX4_objectWithSerial_36 (by decide) ?_
      obtain rfl := Option.some.inj h
      exact hs_ireturn dX4_objectWithSerial_37 rfl (by rfl) (fun _ => rfl)
    · rw [if_neg hc1] at h
      refine hs_aload_n dX4_objectWithSerial_8 0 rfl ?_
      obtain ⟨r2, h2, h⟩ := hb_bind h
      refine hs_getR dX4_objectWithSerial_9 lkX4_21 rfl h2 ?_
      refine hs_iload_n dX4_objectWithSerial_12 2 rfl ?_
      obtain ⟨r3, h3, h⟩ := hb_bind h
      refine hs_iald dX4_objectWithSerial_13 h3 ?_
      refine hs_iconst (v := (-1 : Int32)) dX4_objectWithSerial_14 (by decide) ?_
      refine hs_icmp_eq (tgt := 30) dX4_objectWithSerial_15 (by decide) (fun hc4 => ?_) (fun hc4 => ?_)
      · rw [if_pos hc4] at h
        refine hs_sub (lv' := [(0, .ref x0), (1, .int x1), (2, .int x2)]) [0, 1, 2] rfl ?_
        exact c_X4_objectWithSerial_b30 (f_X4_objectWithSerial_b2 n) ih h
      · rw [if_neg hc4] at h
        refine hs_aload_n dX4_objectWithSerial_18 0 rfl ?_
        obtain ⟨r5, h5, h⟩ := hb_bind h
        refine hs_getR dX4_objectWithSerial_19 lkX4_24 rfl h5 ?_
        refine hs_iload_n dX4_objectWithSerial_22 2 rfl ?_
        obtain ⟨r6, h6, h⟩ := hb_bind h
        refine hs_iald dX4_objectWithSerial_23 h6 ?_
        refine hs_iload_n dX4_objectWithSerial_24 1 rfl ?_
        refine hs_icmp_ne (tgt := 30) dX4_objectWithSerial_25 (by decide) (fun hc7 => ?_) (fun hc7 => ?_)
        · rw [if_neg hc7] at h
          refine hs_sub (lv' := [(0, .ref x0), (1, .int x1), (2, .int x2)]) [0, 1, 2] rfl ?_
          exact c_X4_objectWithSerial_b30 (f_X4_objectWithSerial_b2 n) ih h
        · rw [if_pos hc7] at h
          refine hs_iload_n dX4_objectWithSerial_28 2 rfl ?_
          obtain rfl := Option.some.inj h
          exact hs_ireturn dX4_objectWithSerial_29 rfl (by rfl) (fun _ => rfl)
set_option maxHeartbeats 4000000 in
set_option maxRecDepth 20000 in
theorem c_X4_objectWithSerial {G : hb_G} {l : Launch} {z : Bool} {x0 : Nat} {x1 : Int32} {σ : hb_M} {r : (Int32 × hb_M)} (h : f_X4_objectWithSerial x0 x1 σ = some r) : hb_Call G l z 0 0 0 mX4_objectWithSerial [.ref x0, .int x1] σ (.inl (some (.int r.1)), r.2) := by
  refine hb_met (by decide) (Nat.le_of_ble_eq_true rfl) ?_
  unfold f_X4_objectWithSerial at h
  refine hs_iconst (v := (0 : Int32)) dX4_objectWithSerial_0 (by decide) ?_
  refine hs_istore_n (lv' := [(2, .int (0 : Int32)), (0, .ref x0), (1, .int x1)]) dX4_objectWithSerial_1 (by decide) rfl ?_
  refine hs_sub (lv' := [(0, .ref x0), (1, .int x1), (2, .int (0 : Int32))]) [1, 2, 0] rfl ?_
  exact c_X4_objectWithSerial_b2 hb_FU _ _ _ _ _ h
def mX4_countNotIn : hb_Y := (yX4_countNotIn, cX4_countNotIn, 5, (some .int), [], false)
set_option maxHeartbeats 4000000 in
set_option maxRecDepth 20000 in
theorem c_X4_countNotIn_b52 {G : hb_G} {l : Launch} {z : Bool}  (k4 : Nat → Nat → Int32 → Int32 → hb_M → Option (Int32 × hb_M)) (hk4 : ∀ (x0 : Nat) (x1 : Nat) (x2 : Int32) (x3 : Int32) (σ : hb_M) (r : (Int32 × hb_M)), k4 x0 x1 x2 x3 σ = some r → hb_T G l z mX4_countNotIn 1 0 0 4 [(0, .ref x0), (1, .ref x1), (2, .int x2), (3, .int x3)] [] σ (.inl (some (.int r.1)), r.2))  {x0 : Nat} {x1 : Nat} {x3 : Int32} {s0 : Int32} {s1 : Int32} {σ : hb_M} {r : (Int32 × hb_M)} (h : f_X4_countNotIn_b52 k4 x0 x1 x3 s0 s1 σ = some r) : hb_T G l z mX4_countNotIn 1 0 0 52 [(0, .ref x0), (1, .ref x1), (3, .int x3)] [.int s1, .int s0] σ (.inl (some (.int r.1)), r.2) := by
  unfold f_X4_countNotIn_b52 at h
  refine hs_iadd dX4_countNotIn_52 ?_
  refine hs_istore_n (lv' := [(2, .int (s0 + s1)), (0, .ref x0), (1, .ref x1), (3, .int x3)]) dX4_countNotIn_53 (by decide) rfl ?_
  refine hs_iinc2 (k := (1 : Int32)) (lv' := [(3, .int (x3 + (1 : Int32))), (2, .int (s0 + s1)), (0, .ref x0), (1, .ref x1)]) dX4_countNotIn_54 (by decide) 3 rfl (by decide) rfl ?_
  refine hs_goto (tgt := 4) dX4_countNotIn_57 (by decide) ?_
  refine hs_sub (lv' := [(0, .ref x0), (1, .ref x1), (2, .int (s0 + s1)), (3, .int (x3 + (1 : Int32)))]) [2, 3, 1, 0] rfl ?_
  exact hk4 _ _ _ _ _ _ h
set_option maxHeartbeats 4000000 in
set_option maxRecDepth 20000 in
theorem c_X4_countNotIn_b39 {G : hb_G} {l : Launch} {z : Bool}  (k4 : Nat → Nat → Int32 → Int32 → hb_M → Option (Int32 × hb_M)) (hk4 : ∀ (x0 : Nat) (x1 : Nat) (x2 : Int32) (x3 : Int32) (σ : hb_M) (r : (Int32 × hb_M)), k4 x0 x1 x2 x3 σ = some r → hb_T G l z mX4_countNotIn 1 0 0 4 [(0, .ref x0), (1, .ref x1), (2, .int x2), (3, .int x3)] [] σ (.inl (some (.int r.1)), r.2))  {x0 : Nat} {x1 : Nat} {x2 : Int32} {x3 : Int32} {s0 : Int32} {σ : hb_M} {r : (Int32 × hb_M)} (h : f_X4_countNotIn_b39 k4 x0 x1 x2 x3 s0 σ = some r) : hb_T G l z mX4_countNotIn 1 0 0 39 [(0, .ref x0), (1, .ref x1), (2, .int x2), (3, .int x3)] [.int s0] σ (.inl (some (.int r.1)), r.2) := by
  unfold f_X4_countNotIn_b39 at h
  refine hs_istore (lv' := [(4, .int s0), (0, .ref x0), (1, .ref x1), (2, .int x2), (3, .int x3)]) dX4_countNotIn_39 (by decide) rfl ?_
  refine hs_iload_n dX4_countNotIn_41 3 rfl ?_
  refine hs_iload dX4_countNotIn_42 0 rfl ?_
  refine hs_if_eq (tgt := 51) dX4_countNotIn_44 (by decide) (fun hc1 => ?_) (fun hc1 => ?_)
  · rw [if_pos hc1] at h
    refine hs_iconst (v := (0 : Int32)) dX4_countNotIn_51 (by decide) ?_
    refine hs_sub (lv' := [(0, .ref x0), (1, .ref x1), (3, .int x3)]) [1, 2, 4] rfl ?_
    exact c_X4_countNotIn_b52 k4 hk4 h
  · rw [if_neg hc1] at h
    refine hs_iconst (v := (1 : Int32)) dX4_countNotIn_47 (by decide) ?_
    refine hs_goto (tgt := 52) dX4_countNotIn_48 (by decide) ?_
    refine hs_sub (lv' := [(0, .ref x0), (1, .ref x1), (3, .int x3)]) [1, 2, 4] rfl ?_
    exact c_X4_countNotIn_b52 k4 hk4 h
set_option maxHeartbeats 4000000 in
set_option maxRecDepth 20000 in
theorem c_X4_countNotIn_b38 {G : hb_G} {l : Launch} {z : Bool}  (k4 : Nat → Nat → Int32 → Int32 → hb_M → Option (Int32 × hb_M)) (hk4 : ∀ (x0 : Nat) (x1 : Nat) (x2 : Int32) (x3 : Int32) (σ : hb_M) (r : (Int32 × hb_M)), k4 x0 x1 x2 x3 σ = some r → hb_T G l z mX4_countNotIn 1 0 0 4 [(0, .ref x0), (1, .ref x1), (2, .int x2), (3, .int x3)] [] σ (.inl (some (.int r.1)), r.2))  {x0 : Nat} {x1 : Nat} {x2 : Int32} {x3 : Int32} {σ : hb_M} {r : (Int32 × hb_M)} (h : f_X4_countNotIn_b38 k4 x0 x1 x2 x3 σ = some r) : hb_T G l z mX4_countNotIn 1 0 0 38 [(0, .ref x0), (1, .ref x1), (2, .int x2), (3, .int x3)] [] σ (.inl (some (.int r.1)), r.2) := by
  unfold f_X4_countNotIn_b38 at h
  refine hs_iconst (v := (0 : Int32)) dX4_countNotIn_38 (by decide) ?_
  refine hs_sub (lv' := [(0, .ref x0), (1, .ref x1), (2, .int x2), (3, .int x3)]) [0, 1, 2, 3] rfl ?_
  exact c_X4_countNotIn_b39 k4 hk4 h
set_option maxHeartbeats 4000000 in
set_option maxRecDepth 20000 in
theorem c_X4_countNotIn_b4 {G : hb_G} {l : Launch} {z : Bool} : ∀ (n : Nat) (x0 : Nat) (x1 : Nat) (x2 : Int32) (x3 : Int32) (σ : hb_M) (r : (Int32 × hb_M)), f_X4_countNotIn_b4 n x0 x1 x2 x3 σ = some r → hb_T G l z mX4_countNotIn 1 0 0 4 [(0, .ref x0), (1, .ref x1), (2, .int x2), (3, .int x3)] [] σ (.inl (some (.int r.1)), r.2) := by
  intro n
  induction n with
  | zero =>
    intro x0 x1 x2 x3 σ r h
    cases h
  | succ n ih =>
    intro x0 x1 x2 x3 σ r h
    rw [f_X4_countNotIn_b4] at h
    refine hs_iload_n dX4_countNotIn_4 3 rfl ?_
    refine hs_bipush (v := (40 : Int32)) dX4_countNotIn_5 (by decide) ?_
    refine hs_icmp_ge (tgt := 60) dX4_countNotIn_7 (by decide) (fun hc1 => ?_) (fun hc1 => ?_)
    · rw [if_pos hc1] at h
      refine hs_iload_n dX4_countNotIn_60 2 rfl ?_
      obtain rfl := Option.some.inj h
      exact hs_ireturn dX4_countNotIn_61 rfl (by rfl) (fun _ => rfl)
    · rw [if_neg hc1] at h
      refine hs_aload_n dX4_countNotIn_10 0 rfl ?_
      obtain ⟨r2, h2, h⟩ := hb_bind h
      refine hs_getR dX4_countNotIn_11 lkX4_21 rfl h2 ?_
      refine hs_iload_n dX4_countNotIn_14 3 rfl ?_
      obtain ⟨r3, h3, h⟩ := hb_bind h
      refine hs_iald dX4_countNotIn_15 h3 ?_
      refine hs_iconst (v := (-1 : Int32)) dX4_countNotIn_16 (by decide) ?_
      refine hs_icmp_eq (tgt := 38) dX4_countNotIn_17 (by decide) (fun hc4 => ?_) (fun hc4 => ?_)
      · rw [if_pos hc4] at h
        refine hs_sub (lv' := [(0, .ref x0), (1, .ref x1), (2, .int x2), (3, .int x3)]) [0, 1, 2, 3] rfl ?_
        exact c_X4_countNotIn_b38 (f_X4_countNotIn_b4 n) ih h
      · rw [if_neg hc4] at h
        refine hs_aload_n dX4_countNotIn_20 1 rfl ?_
        refine hs_aload_n dX4_countNotIn_21 0 rfl ?_
        obtain ⟨r5, h5, h⟩ := hb_bind h
        refine hs_getR dX4_countNotIn_22 lkX4_24 rfl h5 ?_
        refine hs_iload_n dX4_countNotIn_25 3 rfl ?_
        obtain ⟨r6, h6, h⟩ := hb_bind h
        refine hs_iald dX4_countNotIn_26 h6 ?_
        obtain ⟨r7, h7, h⟩ := hb_bind h
        obtain ⟨h7, nf7, hb7⟩ := hb_on_at h7
        refine hs_callVi (μ' := mX4_objectWithSerial) (mc := 0) (ms := 0) (rc := 0) (rs := 0) (As := [.int r6]) (rest := []) (ci := 4) dX4_countNotIn_27 lmX4_149 okX4_objectWithSerial rfl (by decide) rfl (Nat.le_of_ble_eq_true rfl) rfl hb7 (c_X4_objectWithSerial h7) ?_
        refine hs_iconst (v := (-1 : Int32)) dX4_countNotIn_30 (by decide) ?_
        refine hs_icmp_ne (tgt := 38) dX4_countNotIn_31 (by decide) (fun hc8 => ?_) (fun hc8 => ?_)
        · rw [if_neg hc8] at h
          refine hs_sub (lv' := [(0, .ref x0), (1, .ref x1), (2, .int x2), (3, .int x3)]) [0, 1, 2, 3] rfl ?_
          exact c_X4_countNotIn_b38 (f_X4_countNotIn_b4 n) ih h
        · rw [if_pos hc8] at h
          refine hs_iconst (v := (1 : Int32)) dX4_countNotIn_34 (by decide) ?_
          refine hs_goto (tgt := 39) dX4_countNotIn_35 (by decide) ?_
          refine hs_sub (lv' := [(0, .ref x0), (1, .ref x1), (2, .int x2), (3, .int x3)]) [0, 1, 2, 3] rfl ?_
          exact c_X4_countNotIn_b39 (f_X4_countNotIn_b4 n) ih h
set_option maxHeartbeats 4000000 in
set_option maxRecDepth 20000 in
theorem c_X4_countNotIn {G : hb_G} {l : Launch} {z : Bool} {x0 : Nat} {x1 : Nat} {σ : hb_M} {r : (Int32 × hb_M)} (h : f_X4_countNotIn x0 x1 σ = some r) : hb_Call G l z 1 0 0 mX4_countNotIn [.ref x0, .ref x1] σ (.inl (some (.int r.1)), r.2) := by
  refine hb_met (by decide) (Nat.le_of_ble_eq_true rfl) ?_
  unfold f_X4_countNotIn at h
  refine hs_iconst (v := (0 : Int32)) dX4_countNotIn_0 (by decide) ?_
  refine hs_istore_n (lv' := [(2, .int (0 : Int32)), (0, .ref x0), (1, .ref x1)]) dX4_countNotIn_1 (by decide) rfl ?_
  refine hs_iconst (v := (0 : Int32)) dX4_countNotIn_2 (by decide) ?_
  refine hs_istore_n (lv' := [(3, .int (0 : Int32)), (2, .int (0 : Int32)), (0, .ref x0), (1, .ref x1)]) dX4_countNotIn_3 (by decide) rfl ?_
  refine hs_sub (lv' := [(0, .ref x0), (1, .ref x1), (2, .int (0 : Int32)), (3, .int (0 : Int32))]) [2, 3, 1, 0] rfl ?_
  exact c_X4_countNotIn_b4 hb_FU _ _ _ _ _ _ h
def mX4_serialIn : hb_Y := (yX4_serialIn, cX4_serialIn, 4, (some .int), [], false)
theorem okX4_serialIn : hb_okV mX4_serialIn 2 := ⟨⟨hb_w 2 (by decide +kernel) (by decide +kernel), hb_w 1292 (by decide +kernel) (by decide +kernel), ⟨by decide +kernel, by decide +kernel, by decide +kernel⟩, by decide⟩, hb_w 1291 (by decide +kernel) (by decide +kernel), hb_wp (q := (yX4_serialIn, 13)) 33 (by decide +kernel) (by decide +kernel)⟩
set_option maxHeartbeats 4000000 in
set_option maxRecDepth 20000 in
theorem c_X4_serialIn {G : hb_G} {l : Launch} {z : Bool} {x0 : Nat} {x1 : Int32} {x2 : Int32} {σ : hb_M} {r : (Int32 × hb_M)} (h : f_X4_serialIn x0 x1 x2 σ = some r) : hb_Call G l z 3 0 0 mX4_serialIn [.ref x0, .int x1, .int x2] σ (.inl (some (.int r.1)), r.2) := by
  refine hb_met (by decide) (Nat.le_of_ble_eq_true rfl) ?_
  unfold f_X4_serialIn at h
  refine hs_aload_n dX4_serialIn_0 0 rfl ?_
  refine hs_iload_n dX4_serialIn_1 1 rfl ?_
  refine hs_iload_n dX4_serialIn_2 2 rfl ?_
  obtain ⟨r1, h1, h⟩ := hb_bind h
  obtain ⟨h1, nf1, hb1⟩ := hb_on_at h1
  refine hs_callVi (μ' := mX4_targetOf) (mc := 0) (ms := 0) (rc := 0) (rs := 0) (As := [.int x1, .int x2]) (rest := []) (ci := 4) dX4_serialIn_3 lmX4_159 okX4_targetOf rfl (by decide) rfl (Nat.le_of_ble_eq_true rfl) rfl hb1 (c_X4_targetOf h1) ?_
  refine hs_istore_n (lv' := [(3, .int r1.1), (0, .ref x0), (1, .int x1), (2, .int x2)]) dX4_serialIn_6 (by decide) rfl ?_
  refine hs_aload_n dX4_serialIn_7 1 rfl ?_
  refine hs_iload_n dX4_serialIn_8 0 rfl ?_
  obtain ⟨r2, h2, h⟩ := hb_bind h
  obtain ⟨h2, nf2, hb2⟩ := hb_on_at h2
  refine hs_callVi (μ' := mX4_hasObject) (mc := 0) (ms := 0) (rc := 0) (rs := 0) (As := [.int r1.1]) (rest := []) (ci := 4) dX4_serialIn_9 lmX4_68 okX4_hasObject rfl (by decide) rfl (Nat.le_of_ble_eq_true rfl) rfl hb2 (c_X4_hasObject h2) ?_
  refine hs_if_eq (tgt := 24) dX4_serialIn_12 (by decide) (fun hc3 => ?_) (fun hc3 => ?_)
  · rw [if_pos hc3] at h
    refine hs_iconst (v := (-1 : Int32)) dX4_serialIn_24 (by decide) ?_
    obtain rfl := Option.some.inj h
    exact hs_ireturn dX4_serialIn_25 rfl (by rfl) (fun _ => rfl)
  · rw [if_neg hc3] at h
    refine hs_aload_n dX4_serialIn_15 1 rfl ?_
    obtain ⟨r4, h4, h⟩ := hb_bind h
    refine hs_getR dX4_serialIn_16 lkX4_24 rfl h4 ?_
    refine hs_iload_n dX4_serialIn_19 0 rfl ?_
    obtain ⟨r5, h5, h⟩ := hb_bind h
    refine hs_iald dX4_serialIn_20 h5 ?_
    refine hs_goto (tgt := 25) dX4_serialIn_21 (by decide) ?_
    obtain rfl := Option.some.inj h
    exact hs_ireturn dX4_serialIn_25 rfl (by rfl) (fun _ => rfl)
def mX4_differs : hb_Y := (yX4_differs, cX4_differs, 5, (some .boolean), [], false)
theorem okX4_differs : hb_okV mX4_differs 3 := ⟨⟨hb_w 2 (by decide +kernel) (by decide +kernel), hb_w 1288 (by decide +kernel) (by decide +kernel), ⟨by decide +kernel, by decide +kernel, by decide +kernel⟩, by decide⟩, hb_w 1287 (by decide +kernel) (by decide +kernel), hb_wp (q := (yX4_differs, 13)) 32 (by decide +kernel) (by decide +kernel)⟩
set_option maxHeartbeats 4000000 in
set_option maxRecDepth 20000 in
theorem c_X4_differs_b35 {G : hb_G} {l : Launch} {z : Bool} : ∀ (n : Nat) (x0 : Nat) (x1 : Int32) (x2 : Nat) (x3 : Int32) (x4 : Int32) (σ : hb_M) (r : (Int32 × hb_M)), f_X4_differs_b35 n x0 x1 x2 x3 x4 σ = some r → hb_T G l z mX4_differs 4 0 0 35 [(0, .ref x0), (1, .int x1), (2, .ref x2), (3, .int x3), (4, .int x4)] [] σ (.inl (some (.int r.1)), r.2) := by
  intro n
  induction n with
  | zero =>
    intro x0 x1 x2 x3 x4 σ r h
    cases h
  | succ n ih =>
    intro x0 x1 x2 x3 x4 σ r h
    rw [f_X4_differs_b35] at h
    refine hs_iload dX4_differs_35 4 rfl ?_
    refine hs_bipush (v := (8 : Int32)) dX4_differs_37 (by decide) ?_
    refine hs_icmp_ge (tgt := 67) dX4_differs_39 (by decide) (fun hc1 => ?_) (fun hc1 => ?_)
    · rw [if_pos hc1] at h
      refine hs_iconst (v := (0 : Int32)) dX4_differs_67 (by decide) ?_
      obtain rfl := Option.some.inj h
      exact hs_ireturn dX4_differs_68 rfl (by decide) (fun _ => rfl)
    · rw [if_neg hc1] at h
      refine hs_aload_n dX4_differs_42 0 rfl ?_
      refine hs_iload_n dX4_differs_43 1 rfl ?_
      refine hs_iload dX4_differs_44 4 rfl ?_
      obtain ⟨r2, h2, h⟩ := hb_bind h
      obtain ⟨h2, nf2, hb2⟩ := hb_on_at h2
      refine hs_callVi (μ' := mX4_serialIn) (mc := 0) (ms := 0) (rc := 0) (rs := 0) (As := [.int x1, .int x4]) (rest := []) (ci := 4) dX4_differs_46 lmX4_156 okX4_serialIn rfl (by decide) rfl (Nat.le_of_ble_eq_true rfl) rfl hb2 (c_X4_serialIn h2) ?_
      refine hs_aload_n dX4_differs_49 2 rfl ?_
      refine hs_iload_n dX4_differs_50 3 rfl ?_
      refine hs_iload dX4_differs_51 4 rfl ?_
      obtain ⟨r3, h3, h⟩ := hb_bind h
      obtain ⟨h3, nf3, hb3⟩ := hb_on_at h3
      refine hs_callVi (μ' := mX4_serialIn) (mc := 0) (ms := 0) (rc := 0) (rs := 0) (As := [.int x3, .int x4]) (rest := [.int r2.1]) (ci := 4) dX4_differs_53 lmX4_156 okX4_serialIn rfl (by decide) rfl (Nat.le_of_ble_eq_true rfl) rfl hb3 (c_X4_serialIn h3) ?_
      refine hs_icmp_eq (tgt := 61) dX4_differs_56 (by decide) (fun hc4 => ?_) (fun hc4 => ?_)
      · rw [if_pos hc4] at h
        refine hs_iinc2 (k := (1 : Int32)) (lv' := [(4, .int (x4 + (1 : Int32))), (0, .ref x0), (1, .int x1), (2, .ref x2), (3, .int x3)]) dX4_differs_61 (by decide) 4 rfl (by decide) rfl ?_
        refine hs_goto (tgt := 35) dX4_differs_64 (by decide) ?_
        refine hs_sub (lv' := [(0, .ref x0), (1, .int x1), (2, .ref x2), (3, .int x3), (4, .int (x4 + (1 : Int32)))]) [1, 2, 3, 4, 0] rfl ?_
        exact ih _ _ _ _ _ _ _ h
      · rw [if_neg hc4] at h
        refine hs_iconst (v := (1 : Int32)) dX4_differs_59 (by decide) ?_
        obtain rfl := Option.some.inj h
        exact hs_ireturn dX4_differs_60 rfl (by decide) (fun _ => rfl)
set_option maxHeartbeats 4000000 in
set_option maxRecDepth 20000 in
theorem c_X4_differs {G : hb_G} {l : Launch} {z : Bool} {x0 : Nat} {x1 : Int32} {x2 : Nat} {x3 : Int32} {σ : hb_M} {r : (Int32 × hb_M)} (h : f_X4_differs x0 x1 x2 x3 σ = some r) : hb_Call G l z 4 0 0 mX4_differs [.ref x0, .int x1, .ref x2, .int x3] σ (.inl (some (.int r.1)), r.2) := by
  refine hb_met (by decide) (Nat.le_of_ble_eq_true rfl) ?_
  unfold f_X4_differs at h
  refine hs_aload_n dX4_differs_0 0 rfl ?_
  obtain ⟨r1, h1, h⟩ := hb_bind h
  refine hs_getR dX4_differs_1 lkX4_36 rfl h1 ?_
  refine hs_iload_n dX4_differs_4 1 rfl ?_
  obtain ⟨r2, h2, h⟩ := hb_bind h
  refine hs_iald dX4_differs_5 h2 ?_
  refine hs_aload_n dX4_differs_6 2 rfl ?_
  obtain ⟨r3, h3, h⟩ := hb_bind h
  refine hs_getR dX4_differs_7 lkX4_36 rfl h3 ?_
  refine hs_iload_n dX4_differs_10 3 rfl ?_
  obtain ⟨r4, h4, h⟩ := hb_bind h
  refine hs_iald dX4_differs_11 h4 ?_
  refine hs_icmp_ne (tgt := 30) dX4_differs_12 (by decide) (fun hc5 => ?_) (fun hc5 => ?_)
  · rw [if_neg hc5] at h
    refine hs_iconst (v := (1 : Int32)) dX4_differs_30 (by decide) ?_
    obtain rfl := Option.some.inj h
    exact hs_ireturn dX4_differs_31 rfl (by decide) (fun _ => rfl)
  · rw [if_pos hc5] at h
    refine hs_aload_n dX4_differs_15 0 rfl ?_
    obtain ⟨r6, h6, h⟩ := hb_bind h
    refine hs_getR dX4_differs_16 lkX4_30 rfl h6 ?_
    refine hs_iload_n dX4_differs_19 1 rfl ?_
    obtain ⟨r7, h7, h⟩ := hb_bind h
    refine hs_iald dX4_differs_20 h7 ?_
    refine hs_aload_n dX4_differs_21 2 rfl ?_
    obtain ⟨r8, h8, h⟩ := hb_bind h
    refine hs_getR dX4_differs_22 lkX4_30 rfl h8 ?_
    refine hs_iload_n dX4_differs_25 3 rfl ?_
    obtain ⟨r9, h9, h⟩ := hb_bind h
    refine hs_iald dX4_differs_26 h9 ?_
    refine hs_icmp_eq (tgt := 32) dX4_differs_27 (by decide) (fun hc10 => ?_) (fun hc10 => ?_)
    · rw [if_pos hc10] at h
      refine hs_iconst (v := (0 : Int32)) dX4_differs_32 (by decide) ?_
      refine hs_istore (lv' := [(4, .int (0 : Int32)), (0, .ref x0), (1, .int x1), (2, .ref x2), (3, .int x3)]) dX4_differs_33 (by decide) rfl ?_
      refine hs_sub (lv' := [(0, .ref x0), (1, .int x1), (2, .ref x2), (3, .int x3), (4, .int (0 : Int32))]) [1, 2, 3, 4, 0] rfl ?_
      exact c_X4_differs_b35 hb_FU _ _ _ _ _ _ _ h
    · rw [if_neg hc10] at h
      refine hs_iconst (v := (1 : Int32)) dX4_differs_30 (by decide) ?_
      obtain rfl := Option.some.inj h
      exact hs_ireturn dX4_differs_31 rfl (by decide) (fun _ => rfl)
def mX4_countChangedSince : hb_Y := (yX4_countChangedSince, cX4_countChangedSince, 5, (some .int), [], false)
set_option maxHeartbeats 4000000 in
set_option maxRecDepth 20000 in
theorem c_X4_countChangedSince_b59 {G : hb_G} {l : Launch} {z : Bool}  (k4 : Nat → Nat → Int32 → Int32 → hb_M → Option (Int32 × hb_M)) (hk4 : ∀ (x0 : Nat) (x1 : Nat) (x2 : Int32) (x3 : Int32) (σ : hb_M) (r : (Int32 × hb_M)), k4 x0 x1 x2 x3 σ = some r → hb_T G l z mX4_countChangedSince 5 0 0 4 [(0, .ref x0), (1, .ref x1), (2, .int x2), (3, .int x3)] [] σ (.inl (some (.int r.1)), r.2))  {x0 : Nat} {x1 : Nat} {x3 : Int32} {s0 : Int32} {s1 : Int32} {σ : hb_M} {r : (Int32 × hb_M)} (h : f_X4_countChangedSince_b59 k4 x0 x1 x3 s0 s1 σ = some r) : hb_T G l z mX4_countChangedSince 5 0 0 59 [(0, .ref x0), (1, .ref x1), (3, .int x3)] [.int s1, .int s0] σ (.inl (some (.int r.1)), r.2) := by
  unfold f_X4_countChangedSince_b59 at h
  refine hs_iadd dX4_countChangedSince_59 ?_
  refine hs_istore_n (lv' := [(2, .int (s0 + s1)), (0, .ref x0), (1, .ref x1), (3, .int x3)]) dX4_countChangedSince_60 (by decide) rfl ?_
  refine hs_iinc2 (k := (1 : Int32)) (lv' := [(3, .int (x3 + (1 : Int32))), (2, .int (s0 + s1)), (0, .ref x0), (1, .ref x1)]) dX4_countChangedSince_61 (by decide) 3 rfl (by decide) rfl ?_
  refine hs_goto (tgt := 4) dX4_countChangedSince_64 (by decide) ?_
  refine hs_sub (lv' := [(0, .ref x0), (1, .ref x1), (2, .int (s0 + s1)), (3, .int (x3 + (1 : Int32)))]) [2, 3, 1, 0] rfl ?_
  exact hk4 _ _ _ _ _ _ h
set_option maxHeartbeats 4000000 in
set_option maxRecDepth 20000 in
theorem c_X4_countChangedSince_b58 {G : hb_G} {l : Launch} {z : Bool}  (k4 : Nat → Nat → Int32 → Int32 → hb_M → Option (Int32 × hb_M)) (hk4 : ∀ (x0 : Nat) (x1 : Nat) (x2 : Int32) (x3 : Int32) (σ : hb_M) (r : (Int32 × hb_M)), k4 x0 x1 x2 x3 σ = some r → hb_T G l z mX4_countChangedSince 5 0 0 4 [(0, .ref x0), (1, .ref x1), (2, .int x2), (3, .int x3)] [] σ (.inl (some (.int r.1)), r.2))  {x0 : Nat} {x1 : Nat} {x3 : Int32} {s0 : Int32} {σ : hb_M} {r : (Int32 × hb_M)} (h : f_X4_countChangedSince_b58 k4 x0 x1 x3 s0 σ = some r) : hb_T G l z mX4_countChangedSince 5 0 0 58 [(0, .ref x0), (1, .ref x1), (3, .int x3)] [.int s0] σ (.inl (some (.int r.1)), r.2) := by
  unfold f_X4_countChangedSince_b58 at h
  refine hs_iconst (v := (0 : Int32)) dX4_countChangedSince_58 (by decide) ?_
  refine hs_sub (lv' := [(0, .ref x0), (1, .ref x1), (3, .int x3)]) [0, 1, 2] rfl ?_
  exact c_X4_countChangedSince_b59 k4 hk4 h
set_option maxHeartbeats 4000000 in
set_option maxRecDepth 20000 in
theorem c_X4_countChangedSince_b34 {G : hb_G} {l : Launch} {z : Bool}  (k4 : Nat → Nat → Int32 → Int32 → hb_M → Option (Int32 × hb_M)) (hk4 : ∀ (x0 : Nat) (x1 : Nat) (x2 : Int32) (x3 : Int32) (σ : hb_M) (r : (Int32 × hb_M)), k4 x0 x1 x2 x3 σ = some r → hb_T G l z mX4_countChangedSince 5 0 0 4 [(0, .ref x0), (1, .ref x1), (2, .int x2), (3, .int x3)] [] σ (.inl (some (.int r.1)), r.2))  {x0 : Nat} {x1 : Nat} {x2 : Int32} {x3 : Int32} {s0 : Int32} {σ : hb_M} {r : (Int32 × hb_M)} (h : f_X4_countChangedSince_b34 k4 x0 x1 x2 x3 s0 σ = some r) : hb_T G l z mX4_countChangedSince 5 0 0 34 [(0, .ref x0), (1, .ref x1), (2, .int x2), (3, .int x3)] [.int s0] σ (.inl (some (.int r.1)), r.2) := by
  unfold f_X4_countChangedSince_b34 at h
  refine hs_istore (lv' := [(4, .int s0), (0, .ref x0), (1, .ref x1), (2, .int x2), (3, .int x3)]) dX4_countChangedSince_34 (by decide) rfl ?_
  refine hs_iload_n dX4_countChangedSince_36 3 rfl ?_
  refine hs_iload dX4_countChangedSince_37 0 rfl ?_
  refine hs_iconst (v := (-1 : Int32)) dX4_countChangedSince_39 (by decide) ?_
  refine hs_icmp_eq (tgt := 58) dX4_countChangedSince_40 (by decide) (fun hc1 => ?_) (fun hc1 => ?_)
  · rw [if_pos hc1] at h
    refine hs_sub (lv' := [(0, .ref x0), (1, .ref x1), (3, .int x3)]) [1, 2, 4] rfl ?_
    exact c_X4_countChangedSince_b58 k4 hk4 h
  · rw [if_neg hc1] at h
    refine hs_aload_n dX4_countChangedSince_43 1 rfl ?_
    refine hs_iload_n dX4_countChangedSince_44 4 rfl ?_
    refine hs_aload_n dX4_countChangedSince_45 2 rfl ?_
    refine hs_iload dX4_countChangedSince_46 0 rfl ?_
    obtain ⟨r2, h2, h⟩ := hb_bind h
    obtain ⟨h2, nf2, hb2⟩ := hb_on_at h2
    refine hs_callVi (μ' := mX4_differs) (mc := 0) (ms := 0) (rc := 0) (rs := 0) (As := [.int x3, .ref x1, .int s0]) (rest := [.int x2]) (ci := 4) dX4_countChangedSince_48 lmX4_152 okX4_differs rfl (by decide) rfl (Nat.le_of_ble_eq_true rfl) rfl hb2 (c_X4_differs h2) ?_
    refine hs_if_eq (tgt := 58) dX4_countChangedSince_51 (by decide) (fun hc3 => ?_) (fun hc3 => ?_)
    · rw [if_pos hc3] at h
      refine hs_sub (lv' := [(0, .ref x0), (1, .ref x1), (3, .int x3)]) [1, 2, 4] rfl ?_
      exact c_X4_countChangedSince_b58 k4 hk4 h
    · rw [if_neg hc3] at h
      refine hs_iconst (v := (1 : Int32)) dX4_countChangedSince_54 (by decide) ?_
      refine hs_goto (tgt := 59) dX4_countChangedSince_55 (by decide) ?_
      refine hs_sub (lv' := [(0, .ref x0), (1, .ref x1), (3, .int x3)]) [1, 2, 4] rfl ?_
      exact c_X4_countChangedSince_b59 k4 hk4 h
set_option maxHeartbeats 4000000 in
set_option maxRecDepth 20000 in
theorem c_X4_countChangedSince_b4 {G : hb_G} {l : Launch} {z : Bool} : ∀ (n : Nat) (x0 : Nat) (x1 : Nat) (x2 : Int32) (x3 : Int32) (σ : hb_M) (r : (Int32 × hb_M)), f_X4_countChangedSince_b4 n x0 x1 x2 x3 σ = some r → hb_T G l z mX4_countChangedSince 5 0 0 4 [(0, .ref x0), (1, .ref x1), (2, .int x2), (3, .int x3)] [] σ (.inl (some (.int r.1)), r.2) := by
  intro n
  induction n with
  | zero =>
    intro x0 x1 x2 x3 σ r h
    cases h
  | succ n ih =>
    intro x0 x1 x2 x3 σ r h
    rw [f_X4_countChangedSince_b4] at h
    refine hs_iload_n dX4_countChangedSince_4 3 rfl ?_
    refine hs_bipush (v := (40 : Int32)) dX4_countChangedSince_5 (by decide) ?_
    refine hs_icmp_ge (tgt := 67) dX4_countChangedSince_7 (by decide) (fun hc1 => ?_) (fun hc1 => ?_)
    · rw [if_pos hc1] at h
      refine hs_iload_n dX4_countChangedSince_67 2 rfl ?_
      obtain rfl := Option.some.inj h
      exact hs_ireturn dX4_countChangedSince_68 rfl (by rfl) (fun _ => rfl)
    · rw [if_neg hc1] at h
      refine hs_aload_n dX4_countChangedSince_10 0 rfl ?_
      obtain ⟨r2, h2, h⟩ := hb_bind h
      refine hs_getR dX4_countChangedSince_11 lkX4_21 rfl h2 ?_
      refine hs_iload_n dX4_countChangedSince_14 3 rfl ?_
      obtain ⟨r3, h3, h⟩ := hb_bind h
      refine hs_iald dX4_countChangedSince_15 h3 ?_
      refine hs_iconst (v := (-1 : Int32)) dX4_countChangedSince_16 (by decide) ?_
      refine hs_icmp_ne (tgt := 24) dX4_countChangedSince_17 (by decide) (fun hc4 => ?_) (fun hc4 => ?_)
      · rw [if_neg hc4] at h
        refine hs_aload_n dX4_countChangedSince_24 1 rfl ?_
        refine hs_aload_n dX4_countChangedSince_25 0 rfl ?_
        obtain ⟨r5, h5, h⟩ := hb_bind h
        refine hs_getR dX4_countChangedSince_26 lkX4_24 rfl h5 ?_
        refine hs_iload_n dX4_countChangedSince_29 3 rfl ?_
        obtain ⟨r6, h6, h⟩ := hb_bind h
        refine hs_iald dX4_countChangedSince_30 h6 ?_
        obtain ⟨r7, h7, h⟩ := hb_bind h
        obtain ⟨h7, nf7, hb7⟩ := hb_on_at h7
        refine hs_callVi (μ' := mX4_objectWithSerial) (mc := 0) (ms := 0) (rc := 0) (rs := 0) (As := [.int r6]) (rest := []) (ci := 4) dX4_countChangedSince_31 lmX4_149 okX4_objectWithSerial rfl (by decide) rfl (Nat.le_of_ble_eq_true rfl) rfl hb7 (c_X4_objectWithSerial h7) ?_
        refine hs_sub (lv' := [(0, .ref x0), (1, .ref x1), (2, .int x2), (3, .int x3)]) [0, 1, 2, 3] rfl ?_
        exact c_X4_countChangedSince_b34 (f_X4_countChangedSince_b4 n) ih h
      · rw [if_pos hc4] at h
        refine hs_iconst (v := (-1 : Int32)) dX4_countChangedSince_20 (by decide) ?_
        refine hs_goto (tgt := 34) dX4_countChangedSince_21 (by decide) ?_
        refine hs_sub (lv' := [(0, .ref x0), (1, .ref x1), (2, .int x2), (3, .int x3)]) [0, 1, 2, 3] rfl ?_
        exact c_X4_countChangedSince_b34 (f_X4_countChangedSince_b4 n) ih h
set_option maxHeartbeats 4000000 in
set_option maxRecDepth 20000 in
theorem c_X4_countChangedSince {G : hb_G} {l : Launch} {z : Bool} {x0 : Nat} {x1 : Nat} {σ : hb_M} {r : (Int32 × hb_M)} (h : f_X4_countChangedSince x0 x1 σ = some r) : hb_Call G l z 5 0 0 mX4_countChangedSince [.ref x0, .ref x1] σ (.inl (some (.int r.1)), r.2) := by
  refine hb_met (by decide) (Nat.le_of_ble_eq_true rfl) ?_
  unfold f_X4_countChangedSince at h
  refine hs_iconst (v := (0 : Int32)) dX4_countChangedSince_0 (by decide) ?_
  refine hs_istore_n (lv' := [(2, .int (0 : Int32)), (0, .ref x0), (1, .ref x1)]) dX4_countChangedSince_1 (by decide) rfl ?_
  refine hs_iconst (v := (0 : Int32)) dX4_countChangedSince_2 (by decide) ?_
  refine hs_istore_n (lv' := [(3, .int (0 : Int32)), (2, .int (0 : Int32)), (0, .ref x0), (1, .ref x1)]) dX4_countChangedSince_3 (by decide) rfl ?_
  refine hs_sub (lv' := [(0, .ref x0), (1, .ref x1), (2, .int (0 : Int32)), (3, .int (0 : Int32))]) [2, 3, 1, 0] rfl ?_
  exact c_X4_countChangedSince_b4 hb_FU _ _ _ _ _ _ h
