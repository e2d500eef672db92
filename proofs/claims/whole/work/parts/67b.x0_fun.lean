theorem okX4_allRoots : hb_okV mX4_allRoots 0 := ⟨⟨hb_w 2 (by decide +kernel) (by decide +kernel), hb_w 354 (by decide +kernel) (by decide +kernel), ⟨by decide +kernel, by decide +kernel, by decide +kernel⟩, by decide⟩, hb_w 352 (by decide +kernel) (by decide +kernel), hb_w 353 (by decide +kernel) (by decide +kernel)⟩
theorem okX4_writeReferences : hb_okV mX4_writeReferences 1 := ⟨⟨hb_w 2 (by decide +kernel) (by decide +kernel), hb_w 350 (by decide +kernel) (by decide +kernel), ⟨by decide +kernel, by decide +kernel, by decide +kernel⟩, by decide⟩, hb_w 348 (by decide +kernel) (by decide +kernel), hb_w 349 (by decide +kernel) (by decide +kernel)⟩
theorem okX4_removeAllBut : hb_okV mX4_removeAllBut 1 := ⟨⟨hb_w 2 (by decide +kernel) (by decide +kernel), hb_w 428 (by decide +kernel) (by decide +kernel), ⟨by decide +kernel, by decide +kernel, by decide +kernel⟩, by decide⟩, hb_w 426 (by decide +kernel) (by decide +kernel), hb_w 427 (by decide +kernel) (by decide +kernel)⟩
theorem okX4_addArray : hb_okV mX4_addArray 1 := ⟨⟨hb_w 2 (by decide +kernel) (by decide +kernel), hb_w 759 (by decide +kernel) (by decide +kernel), ⟨by decide +kernel, by decide +kernel, by decide +kernel⟩, by decide⟩, hb_w 757 (by decide +kernel) (by decide +kernel), hb_w 758 (by decide +kernel) (by decide +kernel)⟩
theorem okX4_addHolder : hb_okV mX4_addHolder 0 := ⟨⟨hb_w 2 (by decide +kernel) (by decide +kernel), hb_w 766 (by decide +kernel) (by decide +kernel), ⟨by decide +kernel, by decide +kernel, by decide +kernel⟩, by decide⟩, hb_w 764 (by decide +kernel) (by decide +kernel), hb_w 765 (by decide +kernel) (by decide +kernel)⟩
theorem okX4_addInstance : hb_okV mX4_addInstance 1 := ⟨⟨hb_w 2 (by decide +kernel) (by decide +kernel), hb_w 740 (by decide +kernel) (by decide +kernel), ⟨by decide +kernel, by decide +kernel, by decide +kernel⟩, by decide⟩, hb_w 738 (by decide +kernel) (by decide +kernel), hb_w 739 (by decide +kernel) (by decide +kernel)⟩
theorem okX4_putRoots : hb_okV mX4_putRoots 2 := ⟨⟨hb_w 2 (by decide +kernel) (by decide +kernel), hb_w 774 (by decide +kernel) (by decide +kernel), ⟨by decide +kernel, by decide +kernel, by decide +kernel⟩, by decide⟩, hb_w 772 (by decide +kernel) (by decide +kernel), hb_w 773 (by decide +kernel) (by decide +kernel)⟩
theorem okX4_putTarget : hb_okV mX4_putTarget 3 := ⟨⟨hb_w 2 (by decide +kernel) (by decide +kernel), hb_w 770 (by decide +kernel) (by decide +kernel), ⟨by decide +kernel, by decide +kernel, by decide +kernel⟩, by decide⟩, hb_w 768 (by decide +kernel) (by decide +kernel), hb_w 769 (by decide +kernel) (by decide +kernel)⟩
theorem okX4_init : hb_okI mX4_init 0 := ⟨⟨hb_w 2 (by decide +kernel) (by decide +kernel), hb_w 41 (by decide +kernel) (by decide +kernel), ⟨by decide +kernel, by decide +kernel, by decide +kernel⟩, by decide⟩, rfl, hb_w 40 (by decide +kernel) (by decide +kernel), rfl⟩
theorem okX4_copyFrom : hb_okV mX4_copyFrom 1 := ⟨⟨hb_w 2 (by decide +kernel) (by decide +kernel), hb_w 331 (by decide +kernel) (by decide +kernel), ⟨by decide +kernel, by decide +kernel, by decide +kernel⟩, by decide⟩, hb_w 329 (by decide +kernel) (by decide +kernel), hb_w 330 (by decide +kernel) (by decide +kernel)⟩
def mX6_init : hb_Y := (yX6_init, cX6_init, 1, none, [], false)
theorem okX6_init : hb_okI mX6_init 0 := ⟨⟨hb_w 5 (by decide +kernel) (by decide +kernel), hb_w 107 (by decide +kernel) (by decide +kernel), ⟨by decide +kernel, by decide +kernel, by decide +kernel⟩, by decide⟩, rfl, hb_w 106 (by decide +kernel) (by decide +kernel), rfl⟩
set_option maxHeartbeats 4000000 in
set_option maxRecDepth 20000 in
theorem c_X6_init {G : hb_G} {l : Launch} {x0 : Nat} {σ : hb_M} {r : hb_M} (h : f_X6_init x0 σ = some r) : hb_Call G l false 0 3 120 mX6_init [.ref x0] σ (.inl none, r) := by
  refine hb_met (by decide) (Nat.le_of_ble_eq_true rfl) ?_
  unfold f_X6_init at h
  refine hs_aload_n dX6_init_0 0 rfl ?_
  refine hs_objInit dX6_init_1 wd_108 hb_oi1 hb_oi2 (Nat.le_of_ble_eq_true rfl) ?_
  refine hs_aload_n dX6_init_4 0 rfl ?_
  refine hs_bipush (v := (40 : Int32)) dX6_init_5 (by decide) ?_
  obtain ⟨r1, h1, h⟩ := hb_bind h
  refine hs_newI (rc := 2) (rs := 80) (k := 40) dX6_init_7 wd_96 h1 (by decide) ?_
  obtain ⟨r2, h2, h⟩ := hb_bind h
  refine hs_putR dX6_init_9 lpX6_init_9 rfl h2 ?_
  refine hs_aload_n dX6_init_12 0 rfl ?_
  refine hs_bipush (v := (40 : Int32)) dX6_init_13 (by decide) ?_
  obtain ⟨r3, h3, h⟩ := hb_bind h
  refine hs_newI (rc := 1) (rs := 40) (k := 40) dX6_init_15 wd_96 h3 (by decide) ?_
  obtain ⟨r4, h4, h⟩ := hb_bind h
  refine hs_putR dX6_init_17 lpX6_init_15 rfl h4 ?_
  refine hs_aload_n dX6_init_20 0 rfl ?_
  refine hs_bipush (v := (40 : Int32)) dX6_init_21 (by decide) ?_
  obtain ⟨r5, h5, h⟩ := hb_bind h
  refine hs_newI (rc := 0) (rs := 0) (k := 40) dX6_init_23 wd_96 h5 (by decide) ?_
  obtain ⟨r6, h6, h⟩ := hb_bind h
  refine hs_putR dX6_init_25 lpX6_init_18 rfl h6 ?_
  obtain rfl := Option.some.inj h
  exact hs_return dX6_init_28 rfl (fun _ => rfl)
def mX0_init : hb_Y := (yX0_init, cX0_init, 2, none, [], false)
set_option maxHeartbeats 4000000 in
set_option maxRecDepth 20000 in
theorem c_X0_init {G : hb_G} {l : Launch} {x0 : Nat} {x1 : Nat} {σ : hb_M} {r : hb_M} (h : f_X0_init x0 x1 σ = some r) : hb_Call G l false 1 16 850 mX0_init [.ref x0, .ref x1] σ (.inl none, r) := by
  refine hb_met (by decide) (Nat.le_of_ble_eq_true rfl) ?_
  unfold f_X0_init at h
  refine hs_aload_n dX0_init_0 0 rfl ?_
  refine hs_objInit dX0_init_1 wd_102 hb_oi1 hb_oi2 (Nat.le_of_ble_eq_true rfl) ?_
  refine hs_aload_n dX0_init_4 0 rfl ?_
  obtain ⟨r1, h1, h⟩ := hb_bind h
  refine hs_newO (rc := 15) (rs := 845) (N := 5) (ci := 6) (C := RX6) (T := TX6) dX0_init_5 rfl (by decide +kernel) wd_103 wd_104 wd_5 h1 ?_
  refine hs_dup dX0_init_8 rfl ?_
  obtain ⟨r2, h2, h⟩ := hb_bind h
  refine hs_callIv (mc := 3) (ms := 120) (rc := 12) (rs := 725) (y9 := yX6_init) (cc9 := cX6_init) (nL9 := 1) (As := []) (rest := [.ref r1.1, .ref x0]) dX0_init_9 (Or.inr lnX0_11) okX6_init rfl (by decide) rfl (Nat.le_of_ble_eq_true rfl) (c_X6_init h2) ?_
  obtain ⟨r3, h3, h⟩ := hb_bind h
  refine hs_putR dX0_init_12 lpX0_init_12 rfl h3 ?_
  refine hs_aload_n dX0_init_15 0 rfl ?_
  obtain ⟨r4, h4, h⟩ := hb_bind h
  refine hs_newO (rc := 11) (rs := 720) (N := 5) (ci := 6) (C := RX6) (T := TX6) dX0_init_16 rfl (by decide +kernel) wd_103 wd_104 wd_5 h4 ?_
  refine hs_dup dX0_init_19 rfl ?_
  obtain ⟨r5, h5, h⟩ := hb_bind h
  refine hs_callIv (mc := 3) (ms := 120) (rc := 8) (rs := 600) (y9 := yX6_init) (cc9 := cX6_init) (nL9 := 1) (As := []) (rest := [.ref r4.1, .ref x0]) dX0_init_20 (Or.inr lnX0_11) okX6_init rfl (by decide) rfl (Nat.le_of_ble_eq_true rfl) (c_X6_init h5) ?_
  obtain ⟨r6, h6, h⟩ := hb_bind h
  refine hs_putR dX0_init_23 lpX0_init_18 rfl h6 ?_
  refine hs_aload_n dX0_init_26 0 rfl ?_
  refine hs_sipush (v := (320 : Int32)) dX0_init_27 (by decide) ?_
  obtain ⟨r7, h7, h⟩ := hb_bind h
  refine hs_newI (rc := 7) (rs := 280) (k := 320) dX0_init_30 wd_96 h7 (by decide) ?_
  obtain ⟨r8, h8, h⟩ := hb_bind h
  refine hs_putR dX0_init_32 lpX0_init_21 rfl h8 ?_
  refine hs_aload_n dX0_init_35 0 rfl ?_
  refine hs_bipush (v := (40 : Int32)) dX0_init_36 (by decide) ?_
  obtain ⟨r9, h9, h⟩ := hb_bind h
  refine hs_newL (rc := 6) (rs := 240) (k := 40) dX0_init_38 wd_183 h9 (by decide) ?_
  obtain ⟨r10, h10, h⟩ := hb_bind h
  refine hs_putR dX0_init_40 lpX0_init_25 rfl h10 ?_
  refine hs_aload_n dX0_init_43 0 rfl ?_
  refine hs_bipush (v := (40 : Int32)) dX0_init_44 (by decide) ?_
  obtain ⟨r11, h11, h⟩ := hb_bind h
  refine hs_newI (rc := 5) (rs := 200) (k := 40) dX0_init_46 wd_96 h11 (by decide) ?_
  obtain ⟨r12, h12, h⟩ := hb_bind h
  refine hs_putR dX0_init_48 lpX0_init_29 rfl h12 ?_
  refine hs_aload_n dX0_init_51 0 rfl ?_
  refine hs_bipush (v := (40 : Int32)) dX0_init_52 (by decide) ?_
  obtain ⟨r13, h13, h⟩ := hb_bind h
  refine hs_newI (rc := 4) (rs := 160) (k := 40) dX0_init_54 wd_96 h13 (by decide) ?_
  obtain ⟨r14, h14, h⟩ := hb_bind h
  refine hs_putR dX0_init_56 lpX0_init_32 rfl h14 ?_
  refine hs_aload_n dX0_init_59 0 rfl ?_
  refine hs_bipush (v := (40 : Int32)) dX0_init_60 (by decide) ?_
  obtain ⟨r15, h15, h⟩ := hb_bind h
  refine hs_newI (rc := 3) (rs := 120) (k := 40) dX0_init_62 wd_96 h15 (by decide) ?_
  obtain ⟨r16, h16, h⟩ := hb_bind h
  refine hs_putR dX0_init_64 lpX0_init_35 rfl h16 ?_
  refine hs_aload_n dX0_init_67 0 rfl ?_
  refine hs_bipush (v := (40 : Int32)) dX0_init_68 (by decide) ?_
  obtain ⟨r17, h17, h⟩ := hb_bind h
  refine hs_newI (rc := 2) (rs := 80) (k := 40) dX0_init_70 wd_96 h17 (by decide) ?_
  obtain ⟨r18, h18, h⟩ := hb_bind h
  refine hs_putR dX0_init_72 lpX0_init_38 rfl h18 ?_
  refine hs_aload_n dX0_init_75 0 rfl ?_
  refine hs_bipush (v := (40 : Int32)) dX0_init_76 (by decide) ?_
  obtain ⟨r19, h19, h⟩ := hb_bind h
  refine hs_newL (rc := 1) (rs := 40) (k := 40) dX0_init_78 wd_183 h19 (by decide) ?_
  obtain ⟨r20, h20, h⟩ := hb_bind h
  refine hs_putR dX0_init_80 lpX0_init_41 rfl h20 ?_
  refine hs_aload_n dX0_init_83 0 rfl ?_
  refine hs_bipush (v := (40 : Int32)) dX0_init_84 (by decide) ?_
  obtain ⟨r21, h21, h⟩ := hb_bind h
  refine hs_newI (rc := 0) (rs := 0) (k := 40) dX0_init_86 wd_96 h21 (by decide) ?_
  obtain ⟨r22, h22, h⟩ := hb_bind h
  refine hs_putR dX0_init_88 lpX0_init_44 rfl h22 ?_
  refine hs_aload_n dX0_init_91 0 rfl ?_
  refine hs_aload_n dX0_init_92 1 rfl ?_
  obtain ⟨r23, h23, h⟩ := hb_bind h
  refine hs_putR dX0_init_93 lpX0_init_47 rfl h23 ?_
  refine hs_aload_n dX0_init_96 0 rfl ?_
  refine hs_iconst (v := (-1 : Int32)) dX0_init_97 (by decide) ?_
  obtain ⟨r24, h24, h⟩ := hb_bind h
  refine hs_putI dX0_init_98 lpX0_init_51 rfl h24 ?_
  obtain rfl := Option.some.inj h
  exact hs_return dX0_init_101 rfl (fun _ => rfl)
def mX6_enter : hb_Y := (yX6_enter, cX6_enter, 8, none, [], false)
theorem okX6_enter : hb_okV mX6_enter 3 := ⟨⟨hb_w 5 (by decide +kernel) (by decide +kernel), hb_w 367 (by decide +kernel) (by decide +kernel), ⟨by decide +kernel, by decide +kernel, by decide +kernel⟩, by decide⟩, hb_w 366 (by decide +kernel) (by decide +kernel), hb_wp (q := (yX6_enter, 5)) 0 (by decide +kernel) (by decide +kernel)⟩
set_option maxHeartbeats 4000000 in
set_option maxRecDepth 20000 in
theorem c_X6_enter_b96 {G : hb_G} {l : Launch} {z : Bool}  (k26 : Nat → Int32 → Int32 → Int64 → Int32 → hb_M → Option hb_M) (hk26 : ∀ (x0 : Nat) (x3 : Int32) (x4 : Int32) (x5 : Int64) (x7 : Int32) (σ : hb_M) (r : hb_M), k26 x0 x3 x4 x5 x7 σ = some r → hb_T G l z mX6_enter 0 0 0 26 [(0, .ref x0), (3, .int x3), (4, .int x4), (5, .long x5), (7, .int x7)] [] σ (.inl none, r))  {x0 : Nat} {x3 : Int32} {x4 : Int32} {x5 : Int64} {x7 : Int32} {σ : hb_M} {r : hb_M} (h : f_X6_enter_b96 k26 x0 x3 x4 x5 x7 σ = some r) : hb_T G l z mX6_enter 0 0 0 96 [(0, .ref x0), (3, .int x3), (4, .int x4), (5, .long x5), (7, .int x7)] [] σ (.inl none, r) := by
  unfold f_X6_enter_b96 at h
  refine hs_lload dX6_enter_96 3 rfl ?_
  refine hs_iconst (v := (1 : Int32)) dX6_enter_98 (by decide) ?_
  refine hs_lushr dX6_enter_99 ?_
  obtain ⟨r1, h1, h⟩ := hb_bind h
  rw [show (x5.toUInt64 >>> ((1 : Int32).toInt64.toUInt64 &&& Int64.toUInt64 63)).toInt64 = r1 from Option.some.inj h1]
  refine hs_lstore (lv' := [(5, .long r1), (0, .ref x0), (3, .int x3), (4, .int x4), (7, .int x7)]) dX6_enter_100 (by decide) rfl ?_
  refine hs_iinc2 (k := (1 : Int32)) (lv' := [(7, .int (x7 + (1 : Int32))), (5, .long r1), (0, .ref x0), (3, .int x3), (4, .int x4)]) dX6_enter_102 (by decide) 4 rfl (by decide) rfl ?_
  refine hs_goto (tgt := 26) dX6_enter_105 (by decide) ?_
  refine hs_sub (lv' := [(0, .ref x0), (3, .int x3), (4, .int x4), (5, .long r1), (7, .int (x7 + (1 : Int32)))]) [2, 3, 4, 1, 0] rfl ?_
  exact hk26 _ _ _ _ _ _ _ h
set_option maxHeartbeats 4000000 in
set_option maxRecDepth 20000 in
theorem c_X6_enter_b26 {G : hb_G} {l : Launch} {z : Bool} : ∀ (n : Nat) (x0 : Nat) (x3 : Int32) (x4 : Int32) (x5 : Int64) (x7 : Int32) (σ : hb_M) (r : hb_M), f_X6_enter_b26 n x0 x3 x4 x5 x7 σ = some r → hb_T G l z mX6_enter 0 0 0 26 [(0, .ref x0), (3, .int x3), (4, .int x4), (5, .long x5), (7, .int x7)] [] σ (.inl none, r) := by
  intro n
  induction n with
  | zero =>
    intro x0 x3 x4 x5 x7 σ r h
    cases h
  | succ n ih =>
    intro x0 x3 x4 x5 x7 σ r h
    rw [f_X6_enter_b26] at h
    refine hs_iload dX6_enter_26 4 rfl ?_
    refine hs_bipush (v := (40 : Int32)) dX6_enter_28 (by decide) ?_
    refine hs_icmp_ge (tgt := 108) dX6_enter_30 (by decide) (fun hc1 => ?_) (fun hc1 => ?_)
    · rw [if_pos hc1] at h
      obtain rfl := Option.some.inj h
      exact hs_return dX6_enter_108 rfl (fun _ => rfl)
    · rw [if_neg hc1] at h
      refine hs_lload dX6_enter_33 3 rfl ?_
      refine hs_lconst (v := (0 : Int64)) dX6_enter_35 (by decide) ?_
      refine hs_lcmp dX6_enter_36 ?_
      refine hs_if_eq (tgt := 108) dX6_enter_37 (by decide) (fun hc2 => ?_) (fun hc2 => ?_)
      · rw [if_pos hc2] at h
        obtain rfl := Option.some.inj h
        exact hs_return dX6_enter_108 rfl (fun _ => rfl)
      · rw [if_neg hc2] at h
        refine hs_lload dX6_enter_40 3 rfl ?_
        refine hs_lconst (v := (1 : Int64)) dX6_enter_42 (by decide) ?_
        refine hs_land dX6_enter_43 ?_
        refine hs_lconst (v := (1 : Int64)) dX6_enter_44 (by decide) ?_
        refine hs_lcmp dX6_enter_45 ?_
        refine hs_if_ne (tgt := 96) dX6_enter_46 (by decide) (fun hc3 => ?_) (fun hc3 => ?_)
        · rw [if_neg hc3] at h
          refine hs_sub (lv' := [(0, .ref x0), (3, .int x3), (4, .int x4), (5, .long x5), (7, .int x7)]) [0, 1, 2, 3, 4] rfl ?_
          exact c_X6_enter_b96 (f_X6_enter_b26 n) ih h
        · rw [if_pos hc3] at h
          refine hs_aload_n dX6_enter_49 0 rfl ?_
          obtain ⟨r4, h4, h⟩ := hb_bind h
          refine hs_getI dX6_enter_50 lkX6_27 rfl h4 ?_
          refine hs_bipush (v := (40 : Int32)) dX6_enter_53 (by decide) ?_
          refine hs_icmp_ge (tgt := 96) dX6_enter_55 (by decide) (fun hc5 => ?_) (fun hc5 => ?_)
          · rw [if_pos hc5] at h
            refine hs_sub (lv' := [(0, .ref x0), (3, .int x3), (4, .int x4), (5, .long x5), (7, .int x7)]) [0, 1, 2, 3, 4] rfl ?_
            exact c_X6_enter_b96 (f_X6_enter_b26 n) ih h
          · rw [if_neg hc5] at h
            refine hs_aload_n dX6_enter_58 0 rfl ?_
            obtain ⟨r6, h6, h⟩ := hb_bind h
            refine hs_getR dX6_enter_59 lkX6_9 rfl h6 ?_
            refine hs_aload_n dX6_enter_62 0 rfl ?_
            obtain ⟨r7, h7, h⟩ := hb_bind h
            refine hs_getI dX6_enter_63 lkX6_27 rfl h7 ?_
            refine hs_iload dX6_enter_66 4 rfl ?_
            obtain ⟨r8, h8, h⟩ := hb_bind h
            refine hs_iast dX6_enter_68 h8 ?_
            refine hs_aload_n dX6_enter_69 0 rfl ?_
            refine hs_dup dX6_enter_70 rfl ?_
            obtain ⟨r9, h9, h⟩ := hb_bind h
            refine hs_getI dX6_enter_71 lkX6_27 rfl h9 ?_
            refine hs_iconst (v := (1 : Int32)) dX6_enter_74 (by decide) ?_
            refine hs_iadd dX6_enter_75 ?_
            obtain ⟨r10, h10, h⟩ := hb_bind h
            refine hs_putI dX6_enter_76 lpX6_enter_27 rfl h10 ?_
            refine hs_aload_n dX6_enter_79 0 rfl ?_
            obtain ⟨r11, h11, h⟩ := hb_bind h
            refine hs_getR dX6_enter_80 lkX6_15 rfl h11 ?_
            refine hs_iload dX6_enter_83 4 rfl ?_
            refine hs_iload dX6_enter_85 2 rfl ?_
            obtain ⟨r12, h12, h⟩ := hb_bind h
            refine hs_iast dX6_enter_87 h12 ?_
            refine hs_aload_n dX6_enter_88 0 rfl ?_
            obtain ⟨r13, h13, h⟩ := hb_bind h
            refine hs_getR dX6_enter_89 lkX6_18 rfl h13 ?_
            refine hs_iload dX6_enter_92 4 rfl ?_
            refine hs_iload_n dX6_enter_94 1 rfl ?_
            obtain ⟨r14, h14, h⟩ := hb_bind h
            refine hs_iast dX6_enter_95 h14 ?_
            refine hs_sub (lv' := [(0, .ref x0), (3, .int x3), (4, .int x4), (5, .long x5), (7, .int x7)]) [0, 1, 2, 3, 4] rfl ?_
            exact c_X6_enter_b96 (f_X6_enter_b26 n) ih h
set_option maxHeartbeats 4000000 in
set_option maxRecDepth 20000 in
theorem c_X6_enter {G : hb_G} {l : Launch} {z : Bool} {x0 : Nat} {x1 : Int64} {x3 : Int32} {x4 : Int32} {σ : hb_M} {r : hb_M} (h : f_X6_enter x0 x1 x3 x4 σ = some r) : hb_Call G l z 0 0 0 mX6_enter [.ref x0, .long x1, .int x3, .int x4] σ (.inl none, r) := by
  refine hb_met (by decide) (Nat.le_of_ble_eq_true rfl) ?_
  unfold f_X6_enter at h
  refine hs_lload_n dX6_enter_0 1 rfl ?_
  refine hs_aload_n dX6_enter_1 0 rfl ?_
  obtain ⟨r1, h1, h⟩ := hb_bind h
  refine hs_getL dX6_enter_2 lkX6_31 rfl h1 ?_
  refine hs_ldc2 (v := (-1 : Int64)) dX6_enter_5 wd_363 ?_
  refine hs_lxor dX6_enter_8 ?_
  refine hs_land dX6_enter_9 ?_
  refine hs_lstore (lv' := [(5, .long (x1 &&& (r1 ^^^ (-1 : Int64)))), (0, .ref x0), (1, .long x1), (3, .int x3), (4, .int x4)]) dX6_enter_10 (by decide) rfl ?_
  refine hs_aload_n dX6_enter_12 1 rfl ?_
  refine hs_dup dX6_enter_13 rfl ?_
  obtain ⟨r2, h2, h⟩ := hb_bind h
  refine hs_getL dX6_enter_14 lkX6_31 rfl h2 ?_
  refine hs_lload dX6_enter_17 0 rfl ?_
  refine hs_lor dX6_enter_19 ?_
  obtain ⟨r3, h3, h⟩ := hb_bind h
  refine hs_putL dX6_enter_20 lpX6_enter_31 rfl h3 ?_
  refine hs_iconst (v := (0 : Int32)) dX6_enter_23 (by decide) ?_
  refine hs_istore (lv' := [(7, .int (0 : Int32)), (5, .long (x1 &&& (r1 ^^^ (-1 : Int64)))), (0, .ref x0), (1, .long x1), (3, .int x3), (4, .int x4)]) dX6_enter_24 (by decide) rfl ?_
  refine hs_sub (lv' := [(0, .ref x0), (3, .int x3), (4, .int x4), (5, .long (x1 &&& (r1 ^^^ (-1 : Int64)))), (7, .int (0 : Int32))]) [2, 4, 5, 1, 0] rfl ?_
  exact c_X6_enter_b26 hb_FU _ _ _ _ _ _ _ h
def mX6_targetsOf : hb_Y := (yX6_targetsOf, cX6_targetsOf, 7, (some .long), [], false)
theorem okX6_targetsOf : hb_okS mX6_targetsOf 3 := ⟨⟨hb_w 5 (by decide +kernel) (by decide +kernel), hb_w 370 (by decide +kernel) (by decide +kernel), ⟨by decide +kernel, by decide +kernel, by decide +kernel⟩, by decide⟩, hb_w 369 (by decide +kernel) (by decide +kernel)⟩
set_option maxHeartbeats 4000000 in
set_option maxRecDepth 20000 in
theorem c_X6_targetsOf_b39 {G : hb_G} {l : Launch} {z : Bool}  (k5 : Nat → Int32 → Int32 → Int64 → Int32 → hb_M → Option (Int64 × hb_M)) (hk5 : ∀ (x0 : Nat) (x1 : Int32) (x2 : Int32) (x3 : Int64) (x5 : Int32) (σ : hb_M) (r : (Int64 × hb_M)), k5 x0 x1 x2 x3 x5 σ = some r → hb_T G l z mX6_targetsOf 1 0 0 5 [(0, .ref x0), (1, .int x1), (2, .int x2), (3, .long x3), (5, .int x5)] [] σ (.inl (some (.long r.1)), r.2))  {x0 : Nat} {x1 : Int32} {x2 : Int32} {x5 : Int32} {s0 : Int64} {s1 : Int64} {σ : hb_M} {r : (Int64 × hb_M)} (h : f_X6_targetsOf_b39 k5 x0 x1 x2 x5 s0 s1 σ = some r) : hb_T G l z mX6_targetsOf 1 0 0 39 [(0, .ref x0), (1, .int x1), (2, .int x2), (5, .int x5)] [.long s1, .long s0] σ (.inl (some (.long r.1)), r.2) := by
  unfold f_X6_targetsOf_b39 at h
  refine hs_lor dX6_targetsOf_39 ?_
  refine hs_lstore_n (lv' := [(3, .long (s0 ||| s1)), (0, .ref x0), (1, .int x1), (2, .int x2), (5, .int x5)]) dX6_targetsOf_40 (by decide) rfl ?_
  refine hs_iinc2 (k := (1 : Int32)) (lv' := [(5, .int (x5 + (1 : Int32))), (3, .long (s0 ||| s1)), (0, .ref x0), (1, .int x1), (2, .int x2)]) dX6_targetsOf_41 (by decide) 4 rfl (by decide) rfl ?_
  refine hs_goto (tgt := 5) dX6_targetsOf_44 (by decide) ?_
  refine hs_sub (lv' := [(0, .ref x0), (1, .int x1), (2, .int x2), (3, .long (s0 ||| s1)), (5, .int (x5 + (1 : Int32)))]) [2, 3, 4, 1, 0] rfl ?_
  exact hk5 _ _ _ _ _ _ _ h
set_option maxHeartbeats 4000000 in
set_option maxRecDepth 20000 in
theorem c_X6_targetsOf_b5 {G : hb_G} {l : Launch} {z : Bool} : ∀ (n : Nat) (x0 : Nat) (x1 : Int32) (x2 : Int32) (x3 : Int64) (x5 : Int32) (σ : hb_M) (r : (Int64 × hb_M)), f_X6_targetsOf_b5 n x0 x1 x2 x3 x5 σ = some r → hb_T G l z mX6_targetsOf 1 0 0 5 [(0, .ref x0), (1, .int x1), (2, .int x2), (3, .long x3), (5, .int x5)] [] σ (.inl (some (.long r.1)), r.2) := by
  intro n
  induction n with
  | zero =>
    intro x0 x1 x2 x3 x5 σ r h
    cases h
  | succ n ih =>
    intro x0 x1 x2 x3 x5 σ r h
    rw [f_X6_targetsOf_b5] at h
    refine hs_iload dX6_targetsOf_5 4 rfl ?_
    refine hs_bipush (v := (8 : Int32)) dX6_targetsOf_7 (by decide) ?_
    refine hs_icmp_ge (tgt := 47) dX6_targetsOf_9 (by decide) (fun hc1 => ?_) (fun hc1 => ?_)
    · rw [if_pos hc1] at h
      refine hs_lload_n dX6_targetsOf_47 3 rfl ?_
      obtain rfl := Option.some.inj h
      exact hs_lreturn dX6_targetsOf_48 rfl (fun _ => rfl)
    · rw [if_neg hc1] at h
      refine hs_iload_n dX6_targetsOf_12 1 rfl ?_
      refine hs_bipush (v := (8 : Int32)) dX6_targetsOf_13 (by decide) ?_
      refine hs_imul dX6_targetsOf_15 ?_
      refine hs_iload dX6_targetsOf_16 4 rfl ?_
      refine hs_iadd dX6_targetsOf_18 ?_
      refine hs_istore (lv' := [(6, .int ((x1 * (8 : Int32)) + x5)), (0, .ref x0), (1, .int x1), (2, .int x2), (3, .long x3), (5, .int x5)]) dX6_targetsOf_19 (by decide) rfl ?_
      refine hs_lload_n dX6_targetsOf_21 4 rfl ?_
      refine hs_iload dX6_targetsOf_22 0 rfl ?_
      refine hs_iload_n dX6_targetsOf_24 3 rfl ?_
      refine hs_icmp_ne (tgt := 32) dX6_targetsOf_25 (by decide) (fun hc2 => ?_) (fun hc2 => ?_)
      · rw [if_neg hc2] at h
        refine hs_aload_n dX6_targetsOf_32 1 rfl ?_
        refine hs_iload dX6_targetsOf_33 0 rfl ?_
        obtain ⟨r3, h3, h⟩ := hb_bind h
        refine hs_iald dX6_targetsOf_35 h3 ?_
        obtain ⟨r4, h4, h⟩ := hb_bind h
        refine hs_callSNl (μ' := mX8_member) (mc := 0) (ms := 0) (rc := 0) (rs := 0) (As := [.int r3]) (rest := [.long x3]) dX6_targetsOf_36 lnX6_45 okX8_member rfl (by decide) rfl (Nat.le_of_ble_eq_true rfl) (c_X8_member h4) ?_
        refine hs_sub (lv' := [(0, .ref x0), (1, .int x1), (2, .int x2), (5, .int x5)]) [1, 2, 3, 5] rfl ?_
        exact c_X6_targetsOf_b39 (f_X6_targetsOf_b5 n) ih h
      · rw [if_pos hc2] at h
        refine hs_lconst (v := (0 : Int64)) dX6_targetsOf_28 (by decide) ?_
        refine hs_goto (tgt := 39) dX6_targetsOf_29 (by decide) ?_
        refine hs_sub (lv' := [(0, .ref x0), (1, .int x1), (2, .int x2), (5, .int x5)]) [1, 2, 3, 5] rfl ?_
        exact c_X6_targetsOf_b39 (f_X6_targetsOf_b5 n) ih h
set_option maxHeartbeats 4000000 in
set_option maxRecDepth 20000 in
theorem c_X6_targetsOf {G : hb_G} {l : Launch} {z : Bool} {x0 : Nat} {x1 : Int32} {x2 : Int32} {σ : hb_M} {r : (Int64 × hb_M)} (h : f_X6_targetsOf x0 x1 x2 σ = some r) : hb_Call G l z 1 0 0 mX6_targetsOf [.ref x0, .int x1, .int x2] σ (.inl (some (.long r.1)), r.2) := by
  refine hb_met (by decide) (Nat.le_of_ble_eq_true rfl) ?_
  unfold f_X6_targetsOf at h
  refine hs_lconst (v := (0 : Int64)) dX6_targetsOf_0 (by decide) ?_
  refine hs_lstore_n (lv' := [(3, .long (0 : Int64)), (0, .ref x0), (1, .int x1), (2, .int x2)]) dX6_targetsOf_1 (by decide) rfl ?_
  refine hs_iconst (v := (0 : Int32)) dX6_targetsOf_2 (by decide) ?_
  refine hs_istore (lv' := [(5, .int (0 : Int32)), (3, .long (0 : Int64)), (0, .ref x0), (1, .int x1), (2, .int x2)]) dX6_targetsOf_3 (by decide) rfl ?_
  refine hs_sub (lv' := [(0, .ref x0), (1, .int x1), (2, .int x2), (3, .long (0 : Int64)), (5, .int (0 : Int32))]) [2, 3, 4, 1, 0] rfl ?_
  exact c_X6_targetsOf_b5 hb_FU _ _ _ _ _ _ _ h
def mX6_run : hb_Y := (yX6_run, cX6_run, 11, none, [], false)
theorem okX6_run : hb_okV mX6_run 4 := ⟨⟨hb_w 5 (by decide +kernel) (by decide +kernel), hb_w 361 (by decide +kernel) (by decide +kernel), ⟨by decide +kernel, by decide +kernel, by decide +kernel⟩, by decide⟩, hb_w 359 (by decide +kernel) (by decide +kernel), hb_w 360 (by decide +kernel) (by decide +kernel)⟩
set_option maxHeartbeats 4000000 in
set_option maxRecDepth 20000 in
theorem c_X6_run_b43 {G : hb_G} {l : Launch} {z : Bool} : ∀ (n : Nat) (x0 : Nat) (x1 : Nat) (x4 : Int64) (x6 : Int32) (x7 : Int32) (σ : hb_M) (r : hb_M), f_X6_run_b43 n x0 x1 x4 x6 x7 σ = some r → hb_T G l z mX6_run 2 0 0 43 [(0, .ref x0), (1, .ref x1), (4, .long x4), (6, .int x6), (7, .int x7)] [] σ (.inl none, r) := by
  intro n
  induction n with
  | zero =>
    intro x0 x1 x4 x6 x7 σ r h
    cases h
  | succ n ih =>
    intro x0 x1 x4 x6 x7 σ r h
    rw [f_X6_run_b43] at h
    refine hs_iload dX6_run_43 4 rfl ?_
    refine hs_aload_n dX6_run_45 0 rfl ?_
    obtain ⟨r1, h1, h⟩ := hb_bind h
    refine hs_getI dX6_run_46 lkX6_27 rfl h1 ?_
    refine hs_icmp_ge (tgt := 108) dX6_run_49 (by decide) (fun hc2 => ?_) (fun hc2 => ?_)
    · rw [if_pos hc2] at h
      obtain rfl := Option.some.inj h
      exact hs_return dX6_run_108 rfl (fun _ => rfl)
    · rw [if_neg hc2] at h
      refine hs_iload dX6_run_52 4 rfl ?_
      refine hs_bipush (v := (40 : Int32)) dX6_run_54 (by decide) ?_
      refine hs_icmp_ge (tgt := 108) dX6_run_56 (by decide) (fun hc3 => ?_) (fun hc3 => ?_)
      · rw [if_pos hc3] at h
        obtain rfl := Option.some.inj h
        exact hs_return dX6_run_108 rfl (fun _ => rfl)
      · rw [if_neg hc3] at h
        refine hs_aload_n dX6_run_59 0 rfl ?_
        obtain ⟨r4, h4, h⟩ := hb_bind h
        refine hs_getR dX6_run_60 lkX6_9 rfl h4 ?_
        refine hs_iload dX6_run_63 4 rfl ?_
        obtain ⟨r5, h5, h⟩ := hb_bind h
        refine hs_iald dX6_run_65 h5 ?_
        refine hs_istore (lv' := [(8, .int r5), (0, .ref x0), (1, .ref x1), (4, .long x4), (6, .int x6), (7, .int x7)]) dX6_run_66 (by decide) rfl ?_
        refine hs_aload_n dX6_run_68 2 rfl ?_
        refine hs_iload dX6_run_69 0 rfl ?_
        refine hs_iload dX6_run_71 4 rfl ?_
        obtain ⟨r6, h6, h⟩ := hb_bind h
        refine hs_callSl (μ' := mX6_targetsOf) (mc := 0) (ms := 0) (rc := 0) (rs := 0) (As := [.ref x1, .int r5, .int x6]) (rest := []) dX6_run_73 lmX6_41 okX6_targetsOf rfl (by decide) rfl (Nat.le_of_ble_eq_true rfl) (c_X6_targetsOf h6) ?_
        refine hs_lstore (lv' := [(9, .long r6.1), (8, .int r5), (0, .ref x0), (1, .ref x1), (4, .long x4), (6, .int x6), (7, .int x7)]) dX6_run_76 (by decide) rfl ?_
        refine hs_aload_n dX6_run_78 2 rfl ?_
        refine hs_lload dX6_run_79 0 rfl ?_
        refine hs_lload dX6_run_81 4 rfl ?_
        refine hs_ldc2 (v := (-1 : Int64)) dX6_run_83 wd_363 ?_
        refine hs_lxor dX6_run_86 ?_
        refine hs_land dX6_run_87 ?_
        refine hs_iload dX6_run_88 1 rfl ?_
        refine hs_aload_n dX6_run_90 2 rfl ?_
        obtain ⟨r7, h7, h⟩ := hb_bind h
        refine hs_getR dX6_run_91 lkX6_15 rfl h7 ?_
        refine hs_iload dX6_run_94 1 rfl ?_
        obtain ⟨r8, h8, h⟩ := hb_bind h
        refine hs_iald dX6_run_96 h8 ?_
        refine hs_iconst (v := (1 : Int32)) dX6_run_97 (by decide) ?_
        refine hs_iadd dX6_run_98 ?_
        obtain ⟨r9, h9, h⟩ := hb_bind h
        obtain ⟨h9, nf9, hb9⟩ := hb_on_at h9
        refine hs_callVv (μ' := mX6_enter) (mc := 0) (ms := 0) (rc := 0) (rs := 0) (As := [.long (r6.1 &&& (x4 ^^^ (-1 : Int64))), .int r5, .int (r8 + (1 : Int32))]) (rest := []) (ci := 6) dX6_run_99 lmX6_37 okX6_enter rfl (by decide) rfl (Nat.le_of_ble_eq_true rfl) rfl hb9 (c_X6_enter h9) ?_
        refine hs_iinc2 (k := (1 : Int32)) (lv' := [(7, .int (x7 + (1 : Int32))), (9, .long r6.1), (8, .int r5), (0, .ref x0), (1, .ref x1), (4, .long x4), (6, .int x6)]) dX6_run_102 (by decide) 6 rfl (by decide) rfl ?_
        refine hs_goto (tgt := 43) dX6_run_105 (by decide) ?_
        refine hs_sub (lv' := [(0, .ref x0), (1, .ref x1), (4, .long x4), (6, .int x6), (7, .int (x7 + (1 : Int32)))]) [3, 4, 5, 6, 0] rfl ?_
        exact ih _ _ _ _ _ _ _ h
set_option maxHeartbeats 4000000 in
set_option maxRecDepth 20000 in
theorem c_X6_run {G : hb_G} {l : Launch} {z : Bool} {x0 : Nat} {x1 : Nat} {x2 : Int64} {x4 : Int64} {x6 : Int32} {σ : hb_M} {r : hb_M} (h : f_X6_run x0 x1 x2 x4 x6 σ = some r) : hb_Call G l z 2 0 0 mX6_run [.ref x0, .ref x1, .long x2, .long x4, .int x6] σ (.inl none, r) := by
  refine hb_met (by decide) (Nat.le_of_ble_eq_true rfl) ?_
  unfold f_X6_run at h
  refine hs_aload_n dX6_run_0 0 rfl ?_
  obtain ⟨r1, h1, h⟩ := hb_bind h
  refine hs_getR dX6_run_1 lkX6_15 rfl h1 ?_
  refine hs_iconst (v := (-1 : Int32)) dX6_run_4 (by decide) ?_
  obtain ⟨r2, h2, h⟩ := hb_bind h
  refine hs_callSv (μ' := mJ7_fill_53178) (mc := 0) (ms := 0) (rc := 0) (rs := 0) (As := [.ref r1, .int (-1 : Int32)]) (rest := []) dX6_run_5 lmX6_21 okJ7_fill_53178 rfl (by decide) rfl (Nat.le_of_ble_eq_true rfl) (c_J7_fill_53178 h2) ?_
  refine hs_aload_n dX6_run_8 0 rfl ?_
  obtain ⟨r3, h3, h⟩ := hb_bind h
  refine hs_getR dX6_run_9 lkX6_18 rfl h3 ?_
  refine hs_iconst (v := (-1 : Int32)) dX6_run_12 (by decide) ?_
  obtain ⟨r4, h4, h⟩ := hb_bind h
  refine hs_callSv (μ' := mJ7_fill_53178) (mc := 0) (ms := 0) (rc := 0) (rs := 0) (As := [.ref r3, .int (-1 : Int32)]) (rest := []) dX6_run_13 lmX6_21 okJ7_fill_53178 rfl (by decide) rfl (Nat.le_of_ble_eq_true rfl) (c_J7_fill_53178 h4) ?_
  refine hs_aload_n dX6_run_16 0 rfl ?_
  refine hs_iconst (v := (0 : Int32)) dX6_run_17 (by decide) ?_
  obtain ⟨r5, h5, h⟩ := hb_bind h
  refine hs_putI dX6_run_18 lpX6_run_27 rfl h5 ?_
  refine hs_aload_n dX6_run_21 0 rfl ?_
  refine hs_lconst (v := (0 : Int64)) dX6_run_22 (by decide) ?_
  obtain ⟨r6, h6, h⟩ := hb_bind h
  refine hs_putL dX6_run_23 lpX6_run_31 rfl h6 ?_
  refine hs_aload_n dX6_run_26 0 rfl ?_
  refine hs_lload_n dX6_run_27 2 rfl ?_
  refine hs_lload dX6_run_28 3 rfl ?_
  refine hs_ldc2 (v := (-1 : Int64)) dX6_run_30 wd_363 ?_
  refine hs_lxor dX6_run_33 ?_
  refine hs_land dX6_run_34 ?_
  refine hs_iconst (v := (-1 : Int32)) dX6_run_35 (by decide) ?_
  refine hs_iconst (v := (0 : Int32)) dX6_run_36 (by decide) ?_
  obtain ⟨r7, h7, h⟩ := hb_bind h
  obtain ⟨h7, nf7, hb7⟩ := hb_on_at h7
  refine hs_callVv (μ' := mX6_enter) (mc := 0) (ms := 0) (rc := 0) (rs := 0) (As := [.long (x2 &&& (x4 ^^^ (-1 : Int64))), .int (-1 : Int32), .int (0 : Int32)]) (rest := []) (ci := 6) dX6_run_37 lmX6_37 okX6_enter rfl (by decide) rfl (Nat.le_of_ble_eq_true rfl) rfl hb7 (c_X6_enter h7) ?_
  refine hs_iconst (v := (0 : Int32)) dX6_run_40 (by decide) ?_
  refine hs_istore (lv' := [(7, .int (0 : Int32)), (0, .ref x0), (1, .ref x1), (2, .long x2), (4, .long x4), (6, .int x6)]) dX6_run_41 (by decide) rfl ?_
  refine hs_sub (lv' := [(0, .ref x0), (1, .ref x1), (4, .long x4), (6, .int x6), (7, .int (0 : Int32))]) [1, 2, 4, 5, 0] rfl ?_
  exact c_X6_run_b43 hb_FU _ _ _ _ _ _ _ h
def mX0_narrowTargets : hb_Y := (yX0_narrowTargets, cX0_narrowTargets, 7, (some .boolean), [], false)
theorem okX0_narrowTargets : hb_okV mX0_narrowTargets 1 := ⟨⟨hb_w 4 (by decide +kernel) (by decide +kernel), hb_w 388 (by decide +kernel) (by decide +kernel), ⟨by decide +kernel, by decide +kernel, by decide +kernel⟩, by decide⟩, hb_w 387 (by decide +kernel) (by decide +kernel), hb_wp (q := (yX0_narrowTargets, 13)) 2 (by decide +kernel) (by decide +kernel)⟩
set_option maxHeartbeats 4000000 in
set_option maxRecDepth 20000 in
theorem c_X0_narrowTargets_b87 {G : hb_G} {l : Launch} {z : Bool}  (k4 : Nat → Int32 → Int32 → Int32 → hb_M → Option (Int32 × hb_M)) (hk4 : ∀ (x0 : Nat) (x1 : Int32) (x2 : Int32) (x3 : Int32) (σ : hb_M) (r : (Int32 × hb_M)), k4 x0 x1 x2 x3 σ = some r → hb_T G l z mX0_narrowTargets 1 0 0 4 [(0, .ref x0), (1, .int x1), (2, .int x2), (3, .int x3)] [] σ (.inl (some (.int r.1)), r.2))  {x0 : Nat} {x1 : Int32} {x2 : Int32} {x3 : Int32} {σ : hb_M} {r : (Int32 × hb_M)} (h : f_X0_narrowTargets_b87 k4 x0 x1 x2 x3 σ = some r) : hb_T G l z mX0_narrowTargets 1 0 0 87 [(0, .ref x0), (1, .int x1), (2, .int x2), (3, .int x3)] [] σ (.inl (some (.int r.1)), r.2) := by
  unfold f_X0_narrowTargets_b87 at h
  refine hs_iinc2 (k := (1 : Int32)) (lv' := [(3, .int (x3 + (1 : Int32))), (0, .ref x0), (1, .int x1), (2, .int x2)]) dX0_narrowTargets_87 (by decide) 3 rfl (by decide) rfl ?_
  refine hs_goto (tgt := 4) dX0_narrowTargets_90 (by decide) ?_
  refine hs_sub (lv' := [(0, .ref x0), (1, .int x1), (2, .int x2), (3, .int (x3 + (1 : Int32)))]) [1, 2, 3, 0] rfl ?_
  exact hk4 _ _ _ _ _ _ h
set_option maxHeartbeats 4000000 in
set_option maxRecDepth 20000 in
theorem c_X0_narrowTargets_b76 {G : hb_G} {l : Launch} {z : Bool}  (k4 : Nat → Int32 → Int32 → Int32 → hb_M → Option (Int32 × hb_M)) (hk4 : ∀ (x0 : Nat) (x1 : Int32) (x2 : Int32) (x3 : Int32) (σ : hb_M) (r : (Int32 × hb_M)), k4 x0 x1 x2 x3 σ = some r → hb_T G l z mX0_narrowTargets 1 0 0 4 [(0, .ref x0), (1, .int x1), (2, .int x2), (3, .int x3)] [] σ (.inl (some (.int r.1)), r.2))  {x0 : Nat} {x1 : Int32} {x3 : Int32} {x4 : Int32} {x5 : Int64} {s0 : Int32} {s1 : Int32} {σ : hb_M} {r : (Int32 × hb_M)} (h : f_X0_narrowTargets_b76 k4 x0 x1 x3 x4 x5 s0 s1 σ = some r) : hb_T G l z mX0_narrowTargets 1 0 0 76 [(0, .ref x0), (1, .int x1), (3, .int x3), (4, .int x4), (5, .long x5)] [.int s1, .int s0] σ (.inl (some (.int r.1)), r.2) := by
  unfold f_X0_narrowTargets_b76 at h
  refine hs_ior dX0_narrowTargets_76 ?_
  refine hs_istore_n (lv' := [(2, .int (s0 ||| s1)), (0, .ref x0), (1, .int x1), (3, .int x3), (4, .int x4), (5, .long x5)]) dX0_narrowTargets_77 (by decide) rfl ?_
  refine hs_aload_n dX0_narrowTargets_78 1 rfl ?_
  obtain ⟨r1, h1, h⟩ := hb_bind h
  refine hs_getR dX0_narrowTargets_79 lkX0_25 rfl h1 ?_
  refine hs_iload dX0_narrowTargets_82 4 rfl ?_
  refine hs_lload dX0_narrowTargets_84 5 rfl ?_
  obtain ⟨r2, h2, h⟩ := hb_bind h
  refine hs_last dX0_narrowTargets_86 h2 ?_
  refine hs_sub (lv' := [(0, .ref x0), (1, .int x1), (2, .int (s0 ||| s1)), (3, .int x3)]) [1, 2, 0, 3] rfl ?_
  exact c_X0_narrowTargets_b87 k4 hk4 h
set_option maxHeartbeats 4000000 in
set_option maxRecDepth 20000 in
theorem c_X0_narrowTargets_b4 {G : hb_G} {l : Launch} {z : Bool} : ∀ (n : Nat) (x0 : Nat) (x1 : Int32) (x2 : Int32) (x3 : Int32) (σ : hb_M) (r : (Int32 × hb_M)), f_X0_narrowTargets_b4 n x0 x1 x2 x3 σ = some r → hb_T G l z mX0_narrowTargets 1 0 0 4 [(0, .ref x0), (1, .int x1), (2, .int x2), (3, .int x3)] [] σ (.inl (some (.int r.1)), r.2) := by
  intro n
  induction n with
  | zero =>
    intro x0 x1 x2 x3 σ r h
    cases h
  | succ n ih =>
    intro x0 x1 x2 x3 σ r h
    rw [f_X0_narrowTargets_b4] at h
    refine hs_iload_n dX0_narrowTargets_4 3 rfl ?_
    refine hs_bipush (v := (8 : Int32)) dX0_narrowTargets_5 (by decide) ?_
    refine hs_icmp_ge (tgt := 93) dX0_narrowTargets_7 (by decide) (fun hc1 => ?_) (fun hc1 => ?_)
    · rw [if_pos hc1] at h
      refine hs_iload_n dX0_narrowTargets_93 2 rfl ?_
      obtain ⟨rfl, hn⟩ := hb_zr_at h
      exact hs_ireturn dX0_narrowTargets_94 rfl hn (fun _ => rfl)
    · rw [if_neg hc1] at h
      refine hs_aload_n dX0_narrowTargets_10 0 rfl ?_
      obtain ⟨r2, h2, h⟩ := hb_bind h
      refine hs_getR dX0_narrowTargets_11 lkX0_21 rfl h2 ?_
      refine hs_iload_n dX0_narrowTargets_14 1 rfl ?_
      refine hs_bipush (v := (8 : Int32)) dX0_narrowTargets_15 (by decide) ?_
      refine hs_imul dX0_narrowTargets_17 ?_
      refine hs_iload_n dX0_narrowTargets_18 3 rfl ?_
      refine hs_iadd dX0_narrowTargets_19 ?_
      obtain ⟨r3, h3, h⟩ := hb_bind h
      refine hs_iald dX0_narrowTargets_20 h3 ?_
      refine hs_istore (lv' := [(4, .int r3), (0, .ref x0), (1, .int x1), (2, .int x2), (3, .int x3)]) dX0_narrowTargets_21 (by decide) rfl ?_
      refine hs_iload dX0_narrowTargets_23 0 rfl ?_
      refine hs_if_lt (tgt := 87) dX0_narrowTargets_25 (by decide) (fun hc4 => ?_) (fun hc4 => ?_)
      · rw [if_pos hc4] at h
        refine hs_sub (lv' := [(0, .ref x0), (1, .int x1), (2, .int x2), (3, .int x3)]) [1, 2, 3, 4] rfl ?_
        exact c_X0_narrowTargets_b87 (f_X0_narrowTargets_b4 n) ih h
      · rw [if_neg hc4] at h
        refine hs_iload dX0_narrowTargets_28 0 rfl ?_
        refine hs_bipush (v := (40 : Int32)) dX0_narrowTargets_30 (by decide) ?_
        refine hs_icmp_ge (tgt := 87) dX0_narrowTargets_32 (by decide) (fun hc5 => ?_) (fun hc5 => ?_)
        · rw [if_pos hc5] at h
          refine hs_sub (lv' := [(0, .ref x0), (1, .int x1), (2, .int x2), (3, .int x3)]) [1, 2, 3, 4] rfl ?_
          exact c_X0_narrowTargets_b87 (f_X0_narrowTargets_b4 n) ih h
        · rw [if_neg hc5] at h
          refine hs_aload_n dX0_narrowTargets_35 1 rfl ?_
          obtain ⟨r6, h6, h⟩ := hb_bind h
          refine hs_getR dX0_narrowTargets_36 lkX0_25 rfl h6 ?_
          refine hs_iload dX0_narrowTargets_39 0 rfl ?_
          obtain ⟨r7, h7, h⟩ := hb_bind h
          refine hs_lald dX0_narrowTargets_41 h7 ?_
          refine hs_aload_n dX0_narrowTargets_42 1 rfl ?_
          obtain ⟨r8, h8, h⟩ := hb_bind h
          refine hs_getR dX0_narrowTargets_43 lkX0_25 rfl h8 ?_
          refine hs_iload_n dX0_narrowTargets_46 2 rfl ?_
          obtain ⟨r9, h9, h⟩ := hb_bind h
          refine hs_lald dX0_narrowTargets_47 h9 ?_
          refine hs_iload dX0_narrowTargets_48 0 rfl ?_
          obtain ⟨r10, h10, h⟩ := hb_bind h
          refine hs_callSNl (μ' := mX8_member) (mc := 0) (ms := 0) (rc := 0) (rs := 0) (As := [.int r3]) (rest := [.long r9, .long r7]) dX0_narrowTargets_50 lnX0_105 okX8_member rfl (by decide) rfl (Nat.le_of_ble_eq_true rfl) (c_X8_member h10) ?_
          refine hs_lor dX0_narrowTargets_53 ?_
          refine hs_land dX0_narrowTargets_54 ?_
          refine hs_lstore (lv' := [(5, .long (r7 &&& (r9 ||| r10.1))), (4, .int r3), (0, .ref x0), (1, .int x1), (2, .int x2), (3, .int x3)]) dX0_narrowTargets_55 (by decide) rfl ?_
          refine hs_iload_n dX0_narrowTargets_57 4 rfl ?_
          refine hs_lload dX0_narrowTargets_58 0 rfl ?_
          refine hs_aload_n dX0_narrowTargets_60 2 rfl ?_
          obtain ⟨r11, h11, h⟩ := hb_bind h
          refine hs_getR dX0_narrowTargets_61 lkX0_25 rfl h11 ?_
          refine hs_iload dX0_narrowTargets_64 1 rfl ?_
          obtain ⟨r12, h12, h⟩ := hb_bind h
          refine hs_lald dX0_narrowTargets_66 h12 ?_
          refine hs_lcmp dX0_narrowTargets_67 ?_
          refine hs_if_eq (tgt := 75) dX0_narrowTargets_68 (by decide) (fun hc13 => ?_) (fun hc13 => ?_)
          · rw [if_pos hc13] at h
            refine hs_iconst (v := (0 : Int32)) dX0_narrowTargets_75 (by decide) ?_
            refine hs_sub (lv' := [(0, .ref x0), (1, .int x1), (3, .int x3), (4, .int r3), (5, .long (r7 &&& (r9 ||| r10.1)))]) [2, 3, 5, 1, 0] rfl ?_
            exact c_X0_narrowTargets_b76 (f_X0_narrowTargets_b4 n) ih h
          · rw [if_neg hc13] at h
            refine hs_iconst (v := (1 : Int32)) dX0_narrowTargets_71 (by decide) ?_
            refine hs_goto (tgt := 76) dX0_narrowTargets_72 (by decide) ?_
            refine hs_sub (lv' := [(0, .ref x0), (1, .int x1), (3, .int x3), (4, .int r3), (5, .long (r7 &&& (r9 ||| r10.1)))]) [2, 3, 5, 1, 0] rfl ?_
            exact c_X0_narrowTargets_b76 (f_X0_narrowTargets_b4 n) ih h
set_option maxHeartbeats 4000000 in
set_option maxRecDepth 20000 in
theorem c_X0_narrowTargets {G : hb_G} {l : Launch} {z : Bool} {x0 : Nat} {x1 : Int32} {σ : hb_M} {r : (Int32 × hb_M)} (h : f_X0_narrowTargets x0 x1 σ = some r) : hb_Call G l z 1 0 0 mX0_narrowTargets [.ref x0, .int x1] σ (.inl (some (.int r.1)), r.2) := by
  refine hb_met (by decide) (Nat.le_of_ble_eq_true rfl) ?_
  unfold f_X0_narrowTargets at h
  refine hs_iconst (v := (0 : Int32)) dX0_narrowTargets_0 (by decide) ?_
  refine hs_istore_n (lv' := [(2, .int (0 : Int32)), (0, .ref x0), (1, .int x1)]) dX0_narrowTargets_1 (by decide) rfl ?_
  refine hs_iconst (v := (0 : Int32)) dX0_narrowTargets_2 (by decide) ?_
  refine hs_istore_n (lv' := [(3, .int (0 : Int32)), (2, .int (0 : Int32)), (0, .ref x0), (1, .int x1)]) dX0_narrowTargets_3 (by decide) rfl ?_
  refine hs_sub (lv' := [(0, .ref x0), (1, .int x1), (2, .int (0 : Int32)), (3, .int (0 : Int32))]) [2, 3, 1, 0] rfl ?_
  exact c_X0_narrowTargets_b4 hb_FU _ _ _ _ _ _ h
def mX0_findDominators : hb_Y := (yX0_findDominators, cX0_findDominators, 6, none, [], false)
theorem okX0_findDominators : hb_okV mX0_findDominators 0 := ⟨⟨hb_w 4 (by decide +kernel) (by decide +kernel), hb_w 382 (by decide +kernel) (by decide +kernel), ⟨by decide +kernel, by decide +kernel, by decide +kernel⟩, by decide⟩, hb_w 381 (by decide +kernel) (by decide +kernel), hb_wp (q := (yX0_findDominators, 13)) 1 (by decide +kernel) (by decide +kernel)⟩
set_option maxHeartbeats 4000000 in
set_option maxRecDepth 20000 in
theorem c_X0_findDominators_b135 {G : hb_G} {l : Launch} {z : Bool}  (k77 : Nat → Int32 → Int32 → hb_M → Option hb_M) (hk77 : ∀ (x0 : Nat) (x3 : Int32) (x4 : Int32) (σ : hb_M) (r : hb_M), k77 x0 x3 x4 σ = some r → hb_T G l z mX0_findDominators 2 0 0 77 [(0, .ref x0), (3, .int x3), (4, .int x4)] [] σ (.inl none, r))  {x0 : Nat} {x3 : Int32} {x4 : Int32} {σ : hb_M} {r : hb_M} (h : f_X0_findDominators_b135 k77 x0 x3 x4 σ = some r) : hb_T G l z mX0_findDominators 2 0 0 135 [(0, .ref x0), (3, .int x3), (4, .int x4)] [] σ (.inl none, r) := by
  unfold f_X0_findDominators_b135 at h
  refine hs_iinc2 (k := (1 : Int32)) (lv' := [(4, .int (x4 + (1 : Int32))), (0, .ref x0), (3, .int x3)]) dX0_findDominators_135 (by decide) 2 rfl (by decide) rfl ?_
  refine hs_goto (tgt := 77) dX0_findDominators_138 (by decide) ?_
  refine hs_sub (lv' := [(0, .ref x0), (3, .int x3), (4, .int (x4 + (1 : Int32)))]) [1, 2, 0] rfl ?_
  exact hk77 _ _ _ _ _ h
set_option maxHeartbeats 4000000 in
set_option maxRecDepth 20000 in
theorem c_X0_findDominators_b93 {G : hb_G} {l : Launch} {z : Bool}  (k77 : Nat → Int32 → Int32 → hb_M → Option hb_M) (hk77 : ∀ (x0 : Nat) (x3 : Int32) (x4 : Int32) (σ : hb_M) (r : hb_M), k77 x0 x3 x4 σ = some r → hb_T G l z mX0_findDominators 2 0 0 77 [(0, .ref x0), (3, .int x3), (4, .int x4)] [] σ (.inl none, r)) : ∀ (n : Nat) (x0 : Nat) (x3 : Int32) (x4 : Int32) (x5 : Int32) (σ : hb_M) (r : hb_M), f_X0_findDominators_b93 k77 n x0 x3 x4 x5 σ = some r → hb_T G l z mX0_findDominators 2 0 0 93 [(0, .ref x0), (3, .int x3), (4, .int x4), (5, .int x5)] [] σ (.inl none, r) := by
  intro n
  induction n with
  | zero =>
    intro x0 x3 x4 x5 σ r h
    cases h
  | succ n ih =>
    intro x0 x3 x4 x5 σ r h
    rw [f_X0_findDominators_b93] at h
    refine hs_iload dX0_findDominators_93 3 rfl ?_
    refine hs_aload_n dX0_findDominators_95 0 rfl ?_
    obtain ⟨r1, h1, h⟩ := hb_bind h
    refine hs_getR dX0_findDominators_96 lkX0_12 rfl h1 ?_
    obtain ⟨r2, h2, h⟩ := hb_bind h
    refine hs_getI dX0_findDominators_99 lkX0_109 rfl h2 ?_
    refine hs_icmp_ge (tgt := 135) dX0_findDominators_102 (by decide) (fun hc3 => ?_) (fun hc3 => ?_)
    · rw [if_pos hc3] at h
      refine hs_sub (lv' := [(0, .ref x0), (3, .int x3), (4, .int x4)]) [0, 1, 2] rfl ?_
      exact c_X0_findDominators_b135 k77 hk77 h
    · rw [if_neg hc3] at h
      refine hs_iload dX0_findDominators_105 3 rfl ?_
      refine hs_bipush (v := (40 : Int32)) dX0_findDominators_107 (by decide) ?_
      refine hs_icmp_ge (tgt := 135) dX0_findDominators_109 (by decide) (fun hc4 => ?_) (fun hc4 => ?_)
      · rw [if_pos hc4] at h
        refine hs_sub (lv' := [(0, .ref x0), (3, .int x3), (4, .int x4)]) [0, 1, 2] rfl ?_
        exact c_X0_findDominators_b135 k77 hk77 h
      · rw [if_neg hc4] at h
        refine hs_iload_n dX0_findDominators_112 1 rfl ?_
        refine hs_aload_n dX0_findDominators_113 0 rfl ?_
        refine hs_aload_n dX0_findDominators_114 0 rfl ?_
        obtain ⟨r5, h5, h⟩ := hb_bind h
        refine hs_getR dX0_findDominators_115 lkX0_12 rfl h5 ?_
        obtain ⟨r6, h6, h⟩ := hb_bind h
        refine hs_getR dX0_findDominators_118 lkX0_112 rfl h6 ?_
        refine hs_iload dX0_findDominators_121 3 rfl ?_
        obtain ⟨r7, h7, h⟩ := hb_bind h
        refine hs_iald dX0_findDominators_123 h7 ?_
        obtain ⟨r8, h8, h⟩ := hb_bind h
        obtain ⟨h8, nf8, hb8⟩ := hb_on_at h8
        refine hs_callVi (μ' := mX0_narrowTargets) (mc := 0) (ms := 0) (rc := 0) (rs := 0) (As := [.int r7]) (rest := [.int x3]) (ci := 0) dX0_findDominators_124 lmX0_115 okX0_narrowTargets rfl (by decide) rfl (Nat.le_of_ble_eq_true rfl) rfl hb8 (c_X0_narrowTargets h8) ?_
        refine hs_ior dX0_findDominators_127 ?_
        refine hs_istore_n (lv' := [(3, .int (x3 ||| r8.1)), (0, .ref x0), (4, .int x4), (5, .int x5)]) dX0_findDominators_128 (by decide) rfl ?_
        refine hs_iinc2 (k := (1 : Int32)) (lv' := [(5, .int (x5 + (1 : Int32))), (3, .int (x3 ||| r8.1)), (0, .ref x0), (4, .int x4)]) dX0_findDominators_129 (by decide) 3 rfl (by decide) rfl ?_
        refine hs_goto (tgt := 93) dX0_findDominators_132 (by decide) ?_
        refine hs_sub (lv' := [(0, .ref x0), (3, .int (x3 ||| r8.1)), (4, .int x4), (5, .int (x5 + (1 : Int32)))]) [2, 1, 3, 0] rfl ?_
        exact ih _ _ _ _ _ _ h
set_option maxHeartbeats 4000000 in
set_option maxRecDepth 20000 in
theorem c_X0_findDominators_b77 {G : hb_G} {l : Launch} {z : Bool} : ∀ (n : Nat) (x0 : Nat) (x3 : Int32) (x4 : Int32) (σ : hb_M) (r : hb_M), f_X0_findDominators_b77 n x0 x3 x4 σ = some r → hb_T G l z mX0_findDominators 2 0 0 77 [(0, .ref x0), (3, .int x3), (4, .int x4)] [] σ (.inl none, r) := by
  intro n
  induction n with
  | zero =>
    intro x0 x3 x4 σ r h
    cases h
  | succ n ih =>
    intro x0 x3 x4 σ r h
    rw [f_X0_findDominators_b77] at h
    refine hs_iload dX0_findDominators_77 2 rfl ?_
    refine hs_bipush (v := (40 : Int32)) dX0_findDominators_79 (by decide) ?_
    refine hs_icmp_gt (tgt := 141) dX0_findDominators_81 (by decide) (fun hc1 => ?_) (fun hc1 => ?_)
    · rw [if_pos hc1] at h
      obtain rfl := Option.some.inj h
      exact hs_return dX0_findDominators_141 rfl (fun _ => rfl)
    · rw [if_neg hc1] at h
      refine hs_iload_n dX0_findDominators_84 1 rfl ?_
      refine hs_if_eq (tgt := 141) dX0_findDominators_85 (by decide) (fun hc2 => ?_) (fun hc2 => ?_)
      · rw [if_pos hc2] at h
        obtain rfl := Option.some.inj h
        exact hs_return dX0_findDominators_141 rfl (fun _ => rfl)
      · rw [if_neg hc2] at h
        refine hs_iconst (v := (0 : Int32)) dX0_findDominators_88 (by decide) ?_
        refine hs_istore_n (lv' := [(3, .int (0 : Int32)), (0, .ref x0), (4, .int x4)]) dX0_findDominators_89 (by decide) rfl ?_
        refine hs_iconst (v := (0 : Int32)) dX0_findDominators_90 (by decide) ?_
        refine hs_istore (lv' := [(5, .int (0 : Int32)), (3, .int (0 : Int32)), (0, .ref x0), (4, .int x4)]) dX0_findDominators_91 (by decide) rfl ?_
        refine hs_sub (lv' := [(0, .ref x0), (3, .int (0 : Int32)), (4, .int x4), (5, .int (0 : Int32))]) [2, 1, 3, 0] rfl ?_
        exact c_X0_findDominators_b93 (f_X0_findDominators_b77 n) ih hb_FU _ _ _ _ _ _ h
set_option maxHeartbeats 4000000 in
set_option maxRecDepth 20000 in
theorem c_X0_findDominators_b65 {G : hb_G} {l : Launch} {z : Bool}  (k10 : Nat → Int64 → Int32 → hb_M → Option hb_M) (hk10 : ∀ (x0 : Nat) (x1 : Int64) (x3 : Int32) (σ : hb_M) (r : hb_M), k10 x0 x1 x3 σ = some r → hb_T G l z mX0_findDominators 2 0 0 10 [(0, .ref x0), (1, .long x1), (3, .int x3)] [] σ (.inl none, r))  {x0 : Nat} {x1 : Int64} {x3 : Int32} {s0 : Nat} {s1 : Int32} {s2 : Int64} {σ : hb_M} {r : hb_M} (h : f_X0_findDominators_b65 k10 x0 x1 x3 s0 s1 s2 σ = some r) : hb_T G l z mX0_findDominators 2 0 0 65 [(0, .ref x0), (1, .long x1), (3, .int x3)] [.long s2, .int s1, .ref s0] σ (.inl none, r) := by
  unfold f_X0_findDominators_b65 at h
  obtain ⟨r1, h1, h⟩ := hb_bind h
  refine hs_last dX0_findDominators_65 h1 ?_
  refine hs_iinc2 (k := (1 : Int32)) (lv' := [(3, .int (x3 + (1 : Int32))), (0, .ref x0), (1, .long x1)]) dX0_findDominators_66 (by decide) 2 rfl (by decide) rfl ?_
  refine hs_goto (tgt := 10) dX0_findDominators_69 (by decide) ?_
  refine hs_sub (lv' := [(0, .ref x0), (1, .long x1), (3, .int (x3 + (1 : Int32)))]) [1, 2, 0] rfl ?_
  exact hk10 _ _ _ _ _ h
set_option maxHeartbeats 4000000 in
set_option maxRecDepth 20000 in
theorem c_X0_findDominators_b10 {G : hb_G} {l : Launch} {z : Bool} : ∀ (n : Nat) (x0 : Nat) (x1 : Int64) (x3 : Int32) (σ : hb_M) (r : hb_M), f_X0_findDominators_b10 n x0 x1 x3 σ = some r → hb_T G l z mX0_findDominators 2 0 0 10 [(0, .ref x0), (1, .long x1), (3, .int x3)] [] σ (.inl none, r) := by
  intro n
  induction n with
  | zero =>
    intro x0 x1 x3 σ r h
    cases h
  | succ n ih =>
    intro x0 x1 x3 σ r h
    rw [f_X0_findDominators_b10] at h
    refine hs_iload_n dX0_findDominators_10 2 rfl ?_
    refine hs_bipush (v := (40 : Int32)) dX0_findDominators_11 (by decide) ?_
    refine hs_icmp_ge (tgt := 72) dX0_findDominators_13 (by decide) (fun hc1 => ?_) (fun hc1 => ?_)
    · rw [if_pos hc1] at h
      refine hs_iconst (v := (1 : Int32)) dX0_findDominators_72 (by decide) ?_
      refine hs_istore_n (lv' := [(3, .int (1 : Int32)), (0, .ref x0), (1, .long x1)]) dX0_findDominators_73 (by decide) rfl ?_
      refine hs_iconst (v := (0 : Int32)) dX0_findDominators_74 (by decide) ?_
      refine hs_istore (lv' := [(4, .int (0 : Int32)), (3, .int (1 : Int32)), (0, .ref x0), (1, .long x1)]) dX0_findDominators_75 (by decide) rfl ?_
      refine hs_sub (lv' := [(0, .ref x0), (3, .int (1 : Int32)), (4, .int (0 : Int32))]) [2, 1, 0] rfl ?_
      exact c_X0_findDominators_b77 hb_FU _ _ _ _ _ h
    · rw [if_neg hc1] at h
      refine hs_aload_n dX0_findDominators_16 0 rfl ?_
      obtain ⟨r2, h2, h⟩ := hb_bind h
      refine hs_getR dX0_findDominators_17 lkX0_12 rfl h2 ?_
      obtain ⟨r3, h3, h⟩ := hb_bind h
      refine hs_getL dX0_findDominators_20 lkX0_72 rfl h3 ?_
      refine hs_iload_n dX0_findDominators_23 2 rfl ?_
      obtain ⟨r4, h4, h⟩ := hb_bind h
      refine hs_callSNi (μ' := mX8_contains) (mc := 0) (ms := 0) (rc := 0) (rs := 0) (As := [.long r3, .int x3]) (rest := []) dX0_findDominators_24 lnX0_101 okX8_contains rfl (by decide) rfl (Nat.le_of_ble_eq_true rfl) (c_X8_contains h4) ?_
      refine hs_istore (lv' := [(4, .int r4.1), (0, .ref x0), (1, .long x1), (3, .int x3)]) dX0_findDominators_27 (by decide) rfl ?_
      refine hs_aload_n dX0_findDominators_29 1 rfl ?_
      obtain ⟨r5, h5, h⟩ := hb_bind h
      refine hs_getR dX0_findDominators_30 lkX0_25 rfl h5 ?_
      refine hs_iload_n dX0_findDominators_33 3 rfl ?_
      refine hs_lload_n dX0_findDominators_34 2 rfl ?_
      refine hs_iload_n dX0_findDominators_35 3 rfl ?_
      obtain ⟨r6, h6, h⟩ := hb_bind h
      refine hs_callSNi (μ' := mX8_contains) (mc := 0) (ms := 0) (rc := 0) (rs := 0) (As := [.long x1, .int x3]) (rest := [.int x3, .ref r5]) dX0_findDominators_36 lnX0_101 okX8_contains rfl (by decide) rfl (Nat.le_of_ble_eq_true rfl) (c_X8_contains h6) ?_
      refine hs_if_eq (tgt := 49) dX0_findDominators_39 (by decide) (fun hc7 => ?_) (fun hc7 => ?_)
      · rw [if_pos hc7] at h
        refine hs_iload dX0_findDominators_49 0 rfl ?_
        refine hs_if_eq (tgt := 64) dX0_findDominators_51 (by decide) (fun hc8 => ?_) (fun hc8 => ?_)
        · rw [if_pos hc8] at h
          refine hs_lconst (v := (0 : Int64)) dX0_findDominators_64 (by decide) ?_
          refine hs_sub (lv' := [(0, .ref x0), (1, .long x1), (3, .int x3)]) [1, 2, 3] rfl ?_
          exact c_X0_findDominators_b65 (f_X0_findDominators_b10 n) ih h
        · rw [if_neg hc8] at h
          refine hs_aload_n dX0_findDominators_54 1 rfl ?_
          obtain ⟨r9, h9, h⟩ := hb_bind h
          refine hs_getR dX0_findDominators_55 lkX0_12 rfl h9 ?_
          obtain ⟨r10, h10, h⟩ := hb_bind h
          refine hs_getL dX0_findDominators_58 lkX0_72 rfl h10 ?_
          refine hs_goto (tgt := 65) dX0_findDominators_61 (by decide) ?_
          refine hs_sub (lv' := [(0, .ref x0), (1, .long x1), (3, .int x3)]) [1, 2, 3] rfl ?_
          exact c_X0_findDominators_b65 (f_X0_findDominators_b10 n) ih h
      · rw [if_neg hc7] at h
        refine hs_iload_n dX0_findDominators_42 3 rfl ?_
        obtain ⟨r11, h11, h⟩ := hb_bind h
        refine hs_callSNl (μ' := mX8_member) (mc := 0) (ms := 0) (rc := 0) (rs := 0) (As := [.int x3]) (rest := [.int x3, .ref r5]) dX0_findDominators_43 lnX0_105 okX8_member rfl (by decide) rfl (Nat.le_of_ble_eq_true rfl) (c_X8_member h11) ?_
        refine hs_goto (tgt := 65) dX0_findDominators_46 (by decide) ?_
        refine hs_sub (lv' := [(0, .ref x0), (1, .long x1), (3, .int x3)]) [1, 2, 3] rfl ?_
        exact c_X0_findDominators_b65 (f_X0_findDominators_b10 n) ih h
set_option maxHeartbeats 4000000 in
set_option maxRecDepth 20000 in
theorem c_X0_findDominators {G : hb_G} {l : Launch} {z : Bool} {x0 : Nat} {σ : hb_M} {r : hb_M} (h : f_X0_findDominators x0 σ = some r) : hb_Call G l z 2 0 0 mX0_findDominators [.ref x0] σ (.inl none, r) := by
  refine hb_met (by decide) (Nat.le_of_ble_eq_true rfl) ?_
  unfold f_X0_findDominators at h
  refine hs_aload_n dX0_findDominators_0 0 rfl ?_
  obtain ⟨r1, h1, h⟩ := hb_bind h
  refine hs_getR dX0_findDominators_1 lkX0_47 rfl h1 ?_
  obtain ⟨r2, h2, h⟩ := hb_bind h
  obtain ⟨h2, nf2, hb2⟩ := hb_on_at h2
  refine hs_callVl (μ' := mX4_allRoots) (mc := 0) (ms := 0) (rc := 0) (rs := 0) (As := []) (rest := []) (ci := 4) dX0_findDominators_4 lmX0_64 okX4_allRoots rfl (by decide) rfl (Nat.le_of_ble_eq_true rfl) rfl hb2 (c_X4_allRoots h2) ?_
  refine hs_lstore_n (lv' := [(1, .long r2.1), (0, .ref x0)]) dX0_findDominators_7 (by decide) rfl ?_
  refine hs_iconst (v := (0 : Int32)) dX0_findDominators_8 (by decide) ?_
  refine hs_istore_n (lv' := [(3, .int (0 : Int32)), (1, .long r2.1), (0, .ref x0)]) dX0_findDominators_9 (by decide) rfl ?_
  refine hs_sub (lv' := [(0, .ref x0), (1, .long r2.1), (3, .int (0 : Int32))]) [2, 1, 0] rfl ?_
  exact c_X0_findDominators_b10 hb_FU _ _ _ _ _ h
def mX0_findImmediate : hb_Y := (yX0_findImmediate, cX0_findImmediate, 4, none, [], false)
theorem okX0_findImmediate : hb_okV mX0_findImmediate 0 := ⟨⟨hb_w 4 (by decide +kernel) (by decide +kernel), hb_w 392 (by decide +kernel) (by decide +kernel), ⟨by decide +kernel, by decide +kernel, by decide +kernel⟩, by decide⟩, hb_w 391 (by decide +kernel) (by decide +kernel), hb_wp (q := (yX0_findImmediate, 13)) 3 (by decide +kernel) (by decide +kernel)⟩
set_option maxHeartbeats 4000000 in
set_option maxRecDepth 20000 in
theorem c_X0_findImmediate_b79 {G : hb_G} {l : Launch} {z : Bool}  (k2 : Nat → Int32 → hb_M → Option hb_M) (hk2 : ∀ (x0 : Nat) (x1 : Int32) (σ : hb_M) (r : hb_M), k2 x0 x1 σ = some r → hb_T G l z mX0_findImmediate 1 0 0 2 [(0, .ref x0), (1, .int x1)] [] σ (.inl none, r))  {x0 : Nat} {x1 : Int32} {σ : hb_M} {r : hb_M} (h : f_X0_findImmediate_b79 k2 x0 x1 σ = some r) : hb_T G l z mX0_findImmediate 1 0 0 79 [(0, .ref x0), (1, .int x1)] [] σ (.inl none, r) := by
  unfold f_X0_findImmediate_b79 at h
  refine hs_iinc2 (k := (1 : Int32)) (lv' := [(1, .int (x1 + (1 : Int32))), (0, .ref x0)]) dX0_findImmediate_79 (by decide) 1 rfl (by decide) rfl ?_
  refine hs_goto (tgt := 2) dX0_findImmediate_82 (by decide) ?_
  refine hs_sub (lv' := [(0, .ref x0), (1, .int (x1 + (1 : Int32)))]) [1, 0] rfl ?_
  exact hk2 _ _ _ _ h
set_option maxHeartbeats 4000000 in
set_option maxRecDepth 20000 in
theorem c_X0_findImmediate_b73 {G : hb_G} {l : Launch} {z : Bool}  (k2 : Nat → Int32 → hb_M → Option hb_M) (hk2 : ∀ (x0 : Nat) (x1 : Int32) (σ : hb_M) (r : hb_M), k2 x0 x1 σ = some r → hb_T G l z mX0_findImmediate 1 0 0 2 [(0, .ref x0), (1, .int x1)] [] σ (.inl none, r)) (k27 : Nat → Int32 → Int32 → Int32 → hb_M → Option hb_M) (hk27 : ∀ (x0 : Nat) (x1 : Int32) (x2 : Int32) (x3 : Int32) (σ : hb_M) (r : hb_M), k27 x0 x1 x2 x3 σ = some r → hb_T G l z mX0_findImmediate 1 0 0 27 [(0, .ref x0), (1, .int x1), (2, .int x2), (3, .int x3)] [] σ (.inl none, r))  {x0 : Nat} {x1 : Int32} {x2 : Int32} {x3 : Int32} {σ : hb_M} {r : hb_M} (h : f_X0_findImmediate_b73 k2 k27 x0 x1 x2 x3 σ = some r) : hb_T G l z mX0_findImmediate 1 0 0 73 [(0, .ref x0), (1, .int x1), (2, .int x2), (3, .int x3)] [] σ (.inl none, r) := by
  unfold f_X0_findImmediate_b73 at h
  refine hs_iinc2 (k := (1 : Int32)) (lv' := [(3, .int (x3 + (1 : Int32))), (0, .ref x0), (1, .int x1), (2, .int x2)]) dX0_findImmediate_73 (by decide) 3 rfl (by decide) rfl ?_
  refine hs_goto (tgt := 27) dX0_findImmediate_76 (by decide) ?_
  refine hs_sub (lv' := [(0, .ref x0), (1, .int x1), (2, .int x2), (3, .int (x3 + (1 : Int32)))]) [1, 2, 3, 0] rfl ?_
  exact hk27 _ _ _ _ _ _ h
set_option maxHeartbeats 4000000 in
set_option maxRecDepth 20000 in
theorem c_X0_findImmediate_b27 {G : hb_G} {l : Launch} {z : Bool}  (k2 : Nat → Int32 → hb_M → Option hb_M) (hk2 : ∀ (x0 : Nat) (x1 : Int32) (σ : hb_M) (r : hb_M), k2 x0 x1 σ = some r → hb_T G l z mX0_findImmediate 1 0 0 2 [(0, .ref x0), (1, .int x1)] [] σ (.inl none, r)) : ∀ (n : Nat) (x0 : Nat) (x1 : Int32) (x2 : Int32) (x3 : Int32) (σ : hb_M) (r : hb_M), f_X0_findImmediate_b27 k2 n x0 x1 x2 x3 σ = some r → hb_T G l z mX0_findImmediate 1 0 0 27 [(0, .ref x0), (1, .int x1), (2, .int x2), (3, .int x3)] [] σ (.inl none, r) := by
  intro n
  induction n with
  | zero =>
    intro x0 x1 x2 x3 σ r h
    cases h
  | succ n ih =>
    intro x0 x1 x2 x3 σ r h
    rw [f_X0_findImmediate_b27] at h
    refine hs_iload_n dX0_findImmediate_27 3 rfl ?_
    refine hs_bipush (v := (40 : Int32)) dX0_findImmediate_28 (by decide) ?_
    refine hs_icmp_ge (tgt := 79) dX0_findImmediate_30 (by decide) (fun hc1 => ?_) (fun hc1 => ?_)
    · rw [if_pos hc1] at h
      refine hs_sub (lv' := [(0, .ref x0), (1, .int x1)]) [0, 1] rfl ?_
      exact c_X0_findImmediate_b79 k2 hk2 h
    · rw [if_neg hc1] at h
      refine hs_iload_n dX0_findImmediate_33 2 rfl ?_
      refine hs_iconst (v := (1 : Int32)) dX0_findImmediate_34 (by decide) ?_
      refine hs_icmp_le (tgt := 79) dX0_findImmediate_35 (by decide) (fun hc2 => ?_) (fun hc2 => ?_)
      · rw [if_pos hc2] at h
        refine hs_sub (lv' := [(0, .ref x0), (1, .int x1)]) [0, 1] rfl ?_
        exact c_X0_findImmediate_b79 k2 hk2 h
      · rw [if_neg hc2] at h
        refine hs_aload_n dX0_findImmediate_38 0 rfl ?_
        obtain ⟨r3, h3, h⟩ := hb_bind h
        refine hs_getR dX0_findImmediate_39 lkX0_25 rfl h3 ?_
        refine hs_iload_n dX0_findImmediate_42 1 rfl ?_
        obtain ⟨r4, h4, h⟩ := hb_bind h
        refine hs_lald dX0_findImmediate_43 h4 ?_
        refine hs_iload_n dX0_findImmediate_44 3 rfl ?_
        obtain ⟨r5, h5, h⟩ := hb_bind h
        refine hs_callSNi (μ' := mX8_contains) (mc := 0) (ms := 0) (rc := 0) (rs := 0) (As := [.long r4, .int x3]) (rest := []) dX0_findImmediate_45 lnX0_101 okX8_contains rfl (by decide) rfl (Nat.le_of_ble_eq_true rfl) (c_X8_contains h5) ?_
        refine hs_if_eq (tgt := 73) dX0_findImmediate_48 (by decide) (fun hc6 => ?_) (fun hc6 => ?_)
        · rw [if_pos hc6] at h
          refine hs_sub (lv' := [(0, .ref x0), (1, .int x1), (2, .int x2), (3, .int x3)]) [0, 1, 2, 3] rfl ?_
          exact c_X0_findImmediate_b73 k2 hk2 (f_X0_findImmediate_b27 k2 n) ih h
        · rw [if_neg hc6] at h
          refine hs_aload_n dX0_findImmediate_51 0 rfl ?_
          obtain ⟨r7, h7, h⟩ := hb_bind h
          refine hs_getR dX0_findImmediate_52 lkX0_25 rfl h7 ?_
          refine hs_iload_n dX0_findImmediate_55 3 rfl ?_
          obtain ⟨r8, h8, h⟩ := hb_bind h
          refine hs_lald dX0_findImmediate_56 h8 ?_
          obtain ⟨r9, h9, h⟩ := hb_bind h
          refine hs_callSi (μ' := mJ13_bitCount_95d88) (mc := 0) (ms := 0) (rc := 0) (rs := 0) (As := [.long r8]) (rest := []) dX0_findImmediate_57 lmX0_119 okJ13_bitCount_95d88 rfl (by decide) rfl (Nat.le_of_ble_eq_true rfl) (c_J13_bitCount_95d88 h9) ?_
          refine hs_iload_n dX0_findImmediate_60 2 rfl ?_
          refine hs_iconst (v := (1 : Int32)) dX0_findImmediate_61 (by decide) ?_
          refine hs_isub dX0_findImmediate_62 ?_
          refine hs_icmp_ne (tgt := 73) dX0_findImmediate_63 (by decide) (fun hc10 => ?_) (fun hc10 => ?_)
          · rw [if_neg hc10] at h
            refine hs_sub (lv' := [(0, .ref x0), (1, .int x1), (2, .int x2), (3, .int x3)]) [0, 1, 2, 3] rfl ?_
            exact c_X0_findImmediate_b73 k2 hk2 (f_X0_findImmediate_b27 k2 n) ih h
          · rw [if_pos hc10] at h
            refine hs_aload_n dX0_findImmediate_66 0 rfl ?_
            obtain ⟨r11, h11, h⟩ := hb_bind h
            refine hs_getR dX0_findImmediate_67 lkX0_29 rfl h11 ?_
            refine hs_iload_n dX0_findImmediate_70 1 rfl ?_
            refine hs_iload_n dX0_findImmediate_71 3 rfl ?_
            obtain ⟨r12, h12, h⟩ := hb_bind h
            refine hs_iast dX0_findImmediate_72 h12 ?_
            refine hs_sub (lv' := [(0, .ref x0), (1, .int x1), (2, .int x2), (3, .int x3)]) [0, 1, 2, 3] rfl ?_
            exact c_X0_findImmediate_b73 k2 hk2 (f_X0_findImmediate_b27 k2 n) ih h
set_option maxHeartbeats 4000000 in
set_option maxRecDepth 20000 in
theorem c_X0_findImmediate_b2 {G : hb_G} {l : Launch} {z : Bool} : ∀ (n : Nat) (x0 : Nat) (x1 : Int32) (σ : hb_M) (r : hb_M), f_X0_findImmediate_b2 n x0 x1 σ = some r → hb_T G l z mX0_findImmediate 1 0 0 2 [(0, .ref x0), (1, .int x1)] [] σ (.inl none, r) := by
  intro n
  induction n with
  | zero =>
    intro x0 x1 σ r h
    cases h
  | succ n ih =>
    intro x0 x1 σ r h
    rw [f_X0_findImmediate_b2] at h
    refine hs_iload_n dX0_findImmediate_2 1 rfl ?_
    refine hs_bipush (v := (40 : Int32)) dX0_findImmediate_3 (by decide) ?_
    refine hs_icmp_ge (tgt := 85) dX0_findImmediate_5 (by decide) (fun hc1 => ?_) (fun hc1 => ?_)
    · rw [if_pos hc1] at h
      obtain rfl := Option.some.inj h
      exact hs_return dX0_findImmediate_85 rfl (fun _ => rfl)
    · rw [if_neg hc1] at h
      refine hs_aload_n dX0_findImmediate_8 0 rfl ?_
      obtain ⟨r2, h2, h⟩ := hb_bind h
      refine hs_getR dX0_findImmediate_9 lkX0_29 rfl h2 ?_
      refine hs_iload_n dX0_findImmediate_12 1 rfl ?_
      refine hs_iconst (v := (-1 : Int32)) dX0_findImmediate_13 (by decide) ?_
      obtain ⟨r3, h3, h⟩ := hb_bind h
      refine hs_iast dX0_findImmediate_14 h3 ?_
      refine hs_aload_n dX0_findImmediate_15 0 rfl ?_
      obtain ⟨r4, h4, h⟩ := hb_bind h
      refine hs_getR dX0_findImmediate_16 lkX0_25 rfl h4 ?_
      refine hs_iload_n dX0_findImmediate_19 1 rfl ?_
      obtain ⟨r5, h5, h⟩ := hb_bind h
      refine hs_lald dX0_findImmediate_20 h5 ?_
      obtain ⟨r6, h6, h⟩ := hb_bind h
      refine hs_callSi (μ' := mJ13_bitCount_95d88) (mc := 0) (ms := 0) (rc := 0) (rs := 0) (As := [.long r5]) (rest := []) dX0_findImmediate_21 lmX0_119 okJ13_bitCount_95d88 rfl (by decide) rfl (Nat.le_of_ble_eq_true rfl) (c_J13_bitCount_95d88 h6) ?_
      refine hs_istore_n (lv' := [(2, .int r6.1), (0, .ref x0), (1, .int x1)]) dX0_findImmediate_24 (by decide) rfl ?_
      refine hs_iconst (v := (0 : Int32)) dX0_findImmediate_25 (by decide) ?_
      refine hs_istore_n (lv' := [(3, .int (0 : Int32)), (2, .int r6.1), (0, .ref x0), (1, .int x1)]) dX0_findImmediate_26 (by decide) rfl ?_
      refine hs_sub (lv' := [(0, .ref x0), (1, .int x1), (2, .int r6.1), (3, .int (0 : Int32))]) [2, 3, 1, 0] rfl ?_
      exact c_X0_findImmediate_b27 (f_X0_findImmediate_b2 n) ih hb_FU _ _ _ _ _ _ h
set_option maxHeartbeats 4000000 in
set_option maxRecDepth 20000 in
theorem c_X0_findImmediate {G : hb_G} {l : Launch} {z : Bool} {x0 : Nat} {σ : hb_M} {r : hb_M} (h : f_X0_findImmediate x0 σ = some r) : hb_Call G l z 1 0 0 mX0_findImmediate [.ref x0] σ (.inl none, r) := by
  refine hb_met (by decide) (Nat.le_of_ble_eq_true rfl) ?_
  unfold f_X0_findImmediate at h
  refine hs_iconst (v := (0 : Int32)) dX0_findImmediate_0 (by decide) ?_
  refine hs_istore_n (lv' := [(1, .int (0 : Int32)), (0, .ref x0)]) dX0_findImmediate_1 (by decide) rfl ?_
  refine hs_sub (lv' := [(0, .ref x0), (1, .int (0 : Int32))]) [1, 0] rfl ?_
  exact c_X0_findImmediate_b2 hb_FU _ _ _ _ h
def mX0_dominatedBy : hb_Y := (yX0_dominatedBy, cX0_dominatedBy, 5, (some .long), [], false)
theorem okX0_dominatedBy : hb_okV mX0_dominatedBy 1 := ⟨⟨hb_w 4 (by decide +kernel) (by decide +kernel), hb_w 406 (by decide +kernel) (by decide +kernel), ⟨by decide +kernel, by decide +kernel, by decide +kernel⟩, by decide⟩, hb_w 404 (by decide +kernel) (by decide +kernel), hb_w 405 (by decide +kernel) (by decide +kernel)⟩
set_option maxHeartbeats 4000000 in
set_option maxRecDepth 20000 in
theorem c_X0_dominatedBy_b36 {G : hb_G} {l : Launch} {z : Bool}  (k5 : Nat → Int32 → Int64 → Int32 → hb_M → Option (Int64 × hb_M)) (hk5 : ∀ (x0 : Nat) (x1 : Int32) (x2 : Int64) (x4 : Int32) (σ : hb_M) (r : (Int64 × hb_M)), k5 x0 x1 x2 x4 σ = some r → hb_T G l z mX0_dominatedBy 1 0 0 5 [(0, .ref x0), (1, .int x1), (2, .long x2), (4, .int x4)] [] σ (.inl (some (.long r.1)), r.2))  {x0 : Nat} {x1 : Int32} {x4 : Int32} {s0 : Int64} {s1 : Int64} {σ : hb_M} {r : (Int64 × hb_M)} (h : f_X0_dominatedBy_b36 k5 x0 x1 x4 s0 s1 σ = some r) : hb_T G l z mX0_dominatedBy 1 0 0 36 [(0, .ref x0), (1, .int x1), (4, .int x4)] [.long s1, .long s0] σ (.inl (some (.long r.1)), r.2) := by
  unfold f_X0_dominatedBy_b36 at h
  refine hs_lor dX0_dominatedBy_36 ?_
  refine hs_lstore_n (lv' := [(2, .long (s0 ||| s1)), (0, .ref x0), (1, .int x1), (4, .int x4)]) dX0_dominatedBy_37 (by decide) rfl ?_
  refine hs_iinc2 (k := (1 : Int32)) (lv' := [(4, .int (x4 + (1 : Int32))), (2, .long (s0 ||| s1)), (0, .ref x0), (1, .int x1)]) dX0_dominatedBy_38 (by decide) 3 rfl (by decide) rfl ?_
  refine hs_goto (tgt := 5) dX0_dominatedBy_41 (by decide) ?_
  refine hs_sub (lv' := [(0, .ref x0), (1, .int x1), (2, .long (s0 ||| s1)), (4, .int (x4 + (1 : Int32)))]) [2, 3, 1, 0] rfl ?_
  exact hk5 _ _ _ _ _ _ h
set_option maxHeartbeats 4000000 in
set_option maxRecDepth 20000 in
theorem c_X0_dominatedBy_b5 {G : hb_G} {l : Launch} {z : Bool} : ∀ (n : Nat) (x0 : Nat) (x1 : Int32) (x2 : Int64) (x4 : Int32) (σ : hb_M) (r : (Int64 × hb_M)), f_X0_dominatedBy_b5 n x0 x1 x2 x4 σ = some r → hb_T G l z mX0_dominatedBy 1 0 0 5 [(0, .ref x0), (1, .int x1), (2, .long x2), (4, .int x4)] [] σ (.inl (some (.long r.1)), r.2) := by
  intro n
  induction n with
  | zero =>
    intro x0 x1 x2 x4 σ r h
    cases h
  | succ n ih =>
    intro x0 x1 x2 x4 σ r h
    rw [f_X0_dominatedBy_b5] at h
    refine hs_iload dX0_dominatedBy_5 3 rfl ?_
    refine hs_bipush (v := (40 : Int32)) dX0_dominatedBy_7 (by decide) ?_
    refine hs_icmp_ge (tgt := 44) dX0_dominatedBy_9 (by decide) (fun hc1 => ?_) (fun hc1 => ?_)
    · rw [if_pos hc1] at h
      refine hs_lload_n dX0_dominatedBy_44 2 rfl ?_
      obtain rfl := Option.some.inj h
      exact hs_lreturn dX0_dominatedBy_45 rfl (fun _ => rfl)
    · rw [if_neg hc1] at h
      refine hs_lload_n dX0_dominatedBy_12 2 rfl ?_
      refine hs_aload_n dX0_dominatedBy_13 0 rfl ?_
      obtain ⟨r2, h2, h⟩ := hb_bind h
      refine hs_getR dX0_dominatedBy_14 lkX0_25 rfl h2 ?_
      refine hs_iload dX0_dominatedBy_17 3 rfl ?_
      obtain ⟨r3, h3, h⟩ := hb_bind h
      refine hs_lald dX0_dominatedBy_19 h3 ?_
      refine hs_iload_n dX0_dominatedBy_20 1 rfl ?_
      obtain ⟨r4, h4, h⟩ := hb_bind h
      refine hs_callSNi (μ' := mX8_contains) (mc := 0) (ms := 0) (rc := 0) (rs := 0) (As := [.long r3, .int x1]) (rest := [.long x2]) dX0_dominatedBy_21 lnX0_101 okX8_contains rfl (by decide) rfl (Nat.le_of_ble_eq_true rfl) (c_X8_contains h4) ?_
      refine hs_if_eq (tgt := 35) dX0_dominatedBy_24 (by decide) (fun hc5 => ?_) (fun hc5 => ?_)
      · rw [if_pos hc5] at h
        refine hs_lconst (v := (0 : Int64)) dX0_dominatedBy_35 (by decide) ?_
        refine hs_sub (lv' := [(0, .ref x0), (1, .int x1), (4, .int x4)]) [0, 1, 3] rfl ?_
        exact c_X0_dominatedBy_b36 (f_X0_dominatedBy_b5 n) ih h
      · rw [if_neg hc5] at h
        refine hs_iload dX0_dominatedBy_27 3 rfl ?_
        obtain ⟨r6, h6, h⟩ := hb_bind h
        refine hs_callSNl (μ' := mX8_member) (mc := 0) (ms := 0) (rc := 0) (rs := 0) (As := [.int x4]) (rest := [.long x2]) dX0_dominatedBy_29 lnX0_105 okX8_member rfl (by decide) rfl (Nat.le_of_ble_eq_true rfl) (c_X8_member h6) ?_
        refine hs_goto (tgt := 36) dX0_dominatedBy_32 (by decide) ?_
        refine hs_sub (lv' := [(0, .ref x0), (1, .int x1), (4, .int x4)]) [0, 1, 3] rfl ?_
        exact c_X0_dominatedBy_b36 (f_X0_dominatedBy_b5 n) ih h
set_option maxHeartbeats 4000000 in
set_option maxRecDepth 20000 in
theorem c_X0_dominatedBy {G : hb_G} {l : Launch} {z : Bool} {x0 : Nat} {x1 : Int32} {σ : hb_M} {r : (Int64 × hb_M)} (h : f_X0_dominatedBy x0 x1 σ = some r) : hb_Call G l z 1 0 0 mX0_dominatedBy [.ref x0, .int x1] σ (.inl (some (.long r.1)), r.2) := by
  refine hb_met (by decide) (Nat.le_of_ble_eq_true rfl) ?_
  unfold f_X0_dominatedBy at h
  refine hs_lconst (v := (0 : Int64)) dX0_dominatedBy_0 (by decide) ?_
  refine hs_lstore_n (lv' := [(2, .long (0 : Int64)), (0, .ref x0), (1, .int x1)]) dX0_dominatedBy_1 (by decide) rfl ?_
  refine hs_iconst (v := (0 : Int32)) dX0_dominatedBy_2 (by decide) ?_
  refine hs_istore (lv' := [(4, .int (0 : Int32)), (2, .long (0 : Int64)), (0, .ref x0), (1, .int x1)]) dX0_dominatedBy_3 (by decide) rfl ?_
  refine hs_sub (lv' := [(0, .ref x0), (1, .int x1), (2, .long (0 : Int64)), (4, .int (0 : Int32))]) [2, 3, 1, 0] rfl ?_
  exact c_X0_dominatedBy_b5 hb_FU _ _ _ _ _ _ h
def mX0_findRetained : hb_Y := (yX0_findRetained, cX0_findRetained, 2, none, [], false)
theorem okX0_findRetained : hb_okV mX0_findRetained 0 := ⟨⟨hb_w 4 (by decide +kernel) (by decide +kernel), hb_w 402 (by decide +kernel) (by decide +kernel), ⟨by decide +kernel, by decide +kernel, by decide +kernel⟩, by decide⟩, hb_w 401 (by decide +kernel) (by decide +kernel), hb_wp (q := (yX0_findRetained, 13)) 4 (by decide +kernel) (by decide +kernel)⟩
set_option maxHeartbeats 4000000 in
set_option maxRecDepth 20000 in
theorem c_X0_findRetained_b43 {G : hb_G} {l : Launch} {z : Bool}  (k2 : Nat → Int32 → hb_M → Option hb_M) (hk2 : ∀ (x0 : Nat) (x1 : Int32) (σ : hb_M) (r : hb_M), k2 x0 x1 σ = some r → hb_T G l z mX0_findRetained 2 0 0 2 [(0, .ref x0), (1, .int x1)] [] σ (.inl none, r))  {x0 : Nat} {x1 : Int32} {s0 : Nat} {s1 : Int32} {s2 : Int32} {σ : hb_M} {r : hb_M} (h : f_X0_findRetained_b43 k2 x0 x1 s0 s1 s2 σ = some r) : hb_T G l z mX0_findRetained 2 0 0 43 [(0, .ref x0), (1, .int x1)] [.int s2, .int s1, .ref s0] σ (.inl none, r) := by
  unfold f_X0_findRetained_b43 at h
  obtain ⟨r1, h1, h⟩ := hb_bind h
  refine hs_iast dX0_findRetained_43 h1 ?_
  refine hs_iinc2 (k := (1 : Int32)) (lv' := [(1, .int (x1 + (1 : Int32))), (0, .ref x0)]) dX0_findRetained_44 (by decide) 1 rfl (by decide) rfl ?_
  refine hs_goto (tgt := 2) dX0_findRetained_47 (by decide) ?_
  refine hs_sub (lv' := [(0, .ref x0), (1, .int (x1 + (1 : Int32)))]) [1, 0] rfl ?_
  exact hk2 _ _ _ _ h
set_option maxHeartbeats 4000000 in
set_option maxRecDepth 20000 in
theorem c_X0_findRetained_b2 {G : hb_G} {l : Launch} {z : Bool} : ∀ (n : Nat) (x0 : Nat) (x1 : Int32) (σ : hb_M) (r : hb_M), f_X0_findRetained_b2 n x0 x1 σ = some r → hb_T G l z mX0_findRetained 2 0 0 2 [(0, .ref x0), (1, .int x1)] [] σ (.inl none, r) := by
  intro n
  induction n with
  | zero =>
    intro x0 x1 σ r h
    cases h
  | succ n ih =>
    intro x0 x1 σ r h
    rw [f_X0_findRetained_b2] at h
    refine hs_iload_n dX0_findRetained_2 1 rfl ?_
    refine hs_bipush (v := (40 : Int32)) dX0_findRetained_3 (by decide) ?_
    refine hs_icmp_ge (tgt := 50) dX0_findRetained_5 (by decide) (fun hc1 => ?_) (fun hc1 => ?_)
    · rw [if_pos hc1] at h
      obtain rfl := Option.some.inj h
      exact hs_return dX0_findRetained_50 rfl (fun _ => rfl)
    · rw [if_neg hc1] at h
      refine hs_aload_n dX0_findRetained_8 0 rfl ?_
      obtain ⟨r2, h2, h⟩ := hb_bind h
      refine hs_getR dX0_findRetained_9 lkX0_32 rfl h2 ?_
      refine hs_iload_n dX0_findRetained_12 1 rfl ?_
      refine hs_aload_n dX0_findRetained_13 0 rfl ?_
      obtain ⟨r3, h3, h⟩ := hb_bind h
      refine hs_getR dX0_findRetained_14 lkX0_12 rfl h3 ?_
      obtain ⟨r4, h4, h⟩ := hb_bind h
      refine hs_getL dX0_findRetained_17 lkX0_72 rfl h4 ?_
      refine hs_iload_n dX0_findRetained_20 1 rfl ?_
      obtain ⟨r5, h5, h⟩ := hb_bind h
      refine hs_callSNi (μ' := mX8_contains) (mc := 0) (ms := 0) (rc := 0) (rs := 0) (As := [.long r4, .int x1]) (rest := [.int x1, .ref r2]) dX0_findRetained_21 lnX0_101 okX8_contains rfl (by decide) rfl (Nat.le_of_ble_eq_true rfl) (c_X8_contains h5) ?_
      refine hs_if_eq (tgt := 42) dX0_findRetained_24 (by decide) (fun hc6 => ?_) (fun hc6 => ?_)
      · rw [if_pos hc6] at h
        refine hs_iconst (v := (0 : Int32)) dX0_findRetained_42 (by decide) ?_
        refine hs_sub (lv' := [(0, .ref x0), (1, .int x1)]) [0, 1] rfl ?_
        exact c_X0_findRetained_b43 (f_X0_findRetained_b2 n) ih h
      · rw [if_neg hc6] at h
        refine hs_aload_n dX0_findRetained_27 0 rfl ?_
        obtain ⟨r7, h7, h⟩ := hb_bind h
        refine hs_getR dX0_findRetained_28 lkX0_47 rfl h7 ?_
        refine hs_aload_n dX0_findRetained_31 0 rfl ?_
        refine hs_iload_n dX0_findRetained_32 1 rfl ?_
        obtain ⟨r8, h8, h⟩ := hb_bind h
        obtain ⟨h8, nf8, hb8⟩ := hb_on_at h8
        refine hs_callVl (μ' := mX0_dominatedBy) (mc := 0) (ms := 0) (rc := 0) (rs := 0) (As := [.int x1]) (rest := [.ref r7, .int x1, .ref r2]) (ci := 0) dX0_findRetained_33 lmX0_124 okX0_dominatedBy rfl (by decide) rfl (Nat.le_of_ble_eq_true rfl) rfl hb8 (c_X0_dominatedBy h8) ?_
        obtain ⟨r9, h9, h⟩ := hb_bind h
        obtain ⟨h9, nf9, hb9⟩ := hb_on_at h9
        refine hs_callVi (μ' := mX4_sizeOfAll) (mc := 0) (ms := 0) (rc := 0) (rs := 0) (As := [.long r8.1]) (rest := [.int x1, .ref r2]) (ci := 4) dX0_findRetained_36 lmX0_76 okX4_sizeOfAll rfl (by decide) rfl (Nat.le_of_ble_eq_true rfl) rfl hb9 (c_X4_sizeOfAll h9) ?_
        refine hs_goto (tgt := 43) dX0_findRetained_39 (by decide) ?_
        refine hs_sub (lv' := [(0, .ref x0), (1, .int x1)]) [0, 1] rfl ?_
        exact c_X0_findRetained_b43 (f_X0_findRetained_b2 n) ih h
set_option maxHeartbeats 4000000 in
set_option maxRecDepth 20000 in
theorem c_X0_findRetained {G : hb_G} {l : Launch} {z : Bool} {x0 : Nat} {σ : hb_M} {r : hb_M} (h : f_X0_findRetained x0 σ = some r) : hb_Call G l z 2 0 0 mX0_findRetained [.ref x0] σ (.inl none, r) := by
  refine hb_met (by decide) (Nat.le_of_ble_eq_true rfl) ?_
  unfold f_X0_findRetained at h
  refine hs_iconst (v := (0 : Int32)) dX0_findRetained_0 (by decide) ?_
  refine hs_istore_n (lv' := [(1, .int (0 : Int32)), (0, .ref x0)]) dX0_findRetained_1 (by decide) rfl ?_
  refine hs_sub (lv' := [(0, .ref x0), (1, .int (0 : Int32))]) [1, 0] rfl ?_
  exact c_X0_findRetained_b2 hb_FU _ _ _ _ h
def mX0_countReferences : hb_Y := (yX0_countReferences, cX0_countReferences, 3, none, [], false)
theorem okX0_countReferences : hb_okV mX0_countReferences 0 := ⟨⟨hb_w 4 (by decide +kernel) (by decide +kernel), hb_w 410 (by decide +kernel) (by decide +kernel), ⟨by decide +kernel, by decide +kernel, by decide +kernel⟩, by decide⟩, hb_w 409 (by decide +kernel) (by decide +kernel), hb_wp (q := (yX0_countReferences, 13)) 5 (by decide +kernel) (by decide +kernel)⟩
set_option maxHeartbeats 4000000 in
set_option maxRecDepth 20000 in
theorem c_X0_countReferences_b65 {G : hb_G} {l : Launch} {z : Bool}  (k18 : Nat → Int32 → hb_M → Option hb_M) (hk18 : ∀ (x0 : Nat) (x1 : Int32) (σ : hb_M) (r : hb_M), k18 x0 x1 σ = some r → hb_T G l z mX0_countReferences 1 0 0 18 [(0, .ref x0), (1, .int x1)] [] σ (.inl none, r))  {x0 : Nat} {x1 : Int32} {σ : hb_M} {r : hb_M} (h : f_X0_countReferences_b65 k18 x0 x1 σ = some r) : hb_T G l z mX0_countReferences 1 0 0 65 [(0, .ref x0), (1, .int x1)] [] σ (.inl none, r) := by
  unfold f_X0_countReferences_b65 at h
  refine hs_iinc2 (k := (1 : Int32)) (lv' := [(1, .int (x1 + (1 : Int32))), (0, .ref x0)]) dX0_countReferences_65 (by decide) 1 rfl (by decide) rfl ?_
  refine hs_goto (tgt := 18) dX0_countReferences_68 (by decide) ?_
  refine hs_sub (lv' := [(0, .ref x0), (1, .int (x1 + (1 : Int32)))]) [1, 0] rfl ?_
  exact hk18 _ _ _ _ h
set_option maxHeartbeats 4000000 in
set_option maxRecDepth 20000 in
theorem c_X0_countReferences_b18 {G : hb_G} {l : Launch} {z : Bool} : ∀ (n : Nat) (x0 : Nat) (x1 : Int32) (σ : hb_M) (r : hb_M), f_X0_countReferences_b18 n x0 x1 σ = some r → hb_T G l z mX0_countReferences 1 0 0 18 [(0, .ref x0), (1, .int x1)] [] σ (.inl none, r) := by
  intro n
  induction n with
  | zero =>
    intro x0 x1 σ r h
    cases h
  | succ n ih =>
    intro x0 x1 σ r h
    rw [f_X0_countReferences_b18] at h
    refine hs_iload_n dX0_countReferences_18 1 rfl ?_
    refine hs_sipush (v := (320 : Int32)) dX0_countReferences_19 (by decide) ?_
    refine hs_icmp_ge (tgt := 71) dX0_countReferences_22 (by decide) (fun hc1 => ?_) (fun hc1 => ?_)
    · rw [if_pos hc1] at h
      obtain rfl := Option.some.inj h
      exact hs_return dX0_countReferences_71 rfl (fun _ => rfl)
    · rw [if_neg hc1] at h
      refine hs_aload_n dX0_countReferences_25 0 rfl ?_
      obtain ⟨r2, h2, h⟩ := hb_bind h
      refine hs_getR dX0_countReferences_26 lkX0_21 rfl h2 ?_
      refine hs_iload_n dX0_countReferences_29 1 rfl ?_
      obtain ⟨r3, h3, h⟩ := hb_bind h
      refine hs_iald dX0_countReferences_30 h3 ?_
      refine hs_istore_n (lv' := [(2, .int r3), (0, .ref x0), (1, .int x1)]) dX0_countReferences_31 (by decide) rfl ?_
      refine hs_iload_n dX0_countReferences_32 0 rfl ?_
      refine hs_if_lt (tgt := 65) dX0_countReferences_33 (by decide) (fun hc4 => ?_) (fun hc4 => ?_)
      · rw [if_pos hc4] at h
        refine hs_sub (lv' := [(0, .ref x0), (1, .int x1)]) [1, 2] rfl ?_
        exact c_X0_countReferences_b65 (f_X0_countReferences_b18 n) ih h
      · rw [if_neg hc4] at h
        refine hs_iload_n dX0_countReferences_36 0 rfl ?_
        refine hs_bipush (v := (40 : Int32)) dX0_countReferences_37 (by decide) ?_
        refine hs_icmp_ge (tgt := 65) dX0_countReferences_39 (by decide) (fun hc5 => ?_) (fun hc5 => ?_)
        · rw [if_pos hc5] at h
          refine hs_sub (lv' := [(0, .ref x0), (1, .int x1)]) [1, 2] rfl ?_
          exact c_X0_countReferences_b65 (f_X0_countReferences_b18 n) ih h
        · rw [if_neg hc5] at h
          refine hs_aload_n dX0_countReferences_42 1 rfl ?_
          obtain ⟨r6, h6, h⟩ := hb_bind h
          refine hs_getR dX0_countReferences_43 lkX0_35 rfl h6 ?_
          refine hs_iload_n dX0_countReferences_46 0 rfl ?_
          refine hs_dup2 dX0_countReferences_47 rfl rfl ?_
          obtain ⟨r7, h7, h⟩ := hb_bind h
          refine hs_iald dX0_countReferences_48 h7 ?_
          refine hs_iconst (v := (1 : Int32)) dX0_countReferences_49 (by decide) ?_
          refine hs_iadd dX0_countReferences_50 ?_
          obtain ⟨r8, h8, h⟩ := hb_bind h
          refine hs_iast dX0_countReferences_51 h8 ?_
          refine hs_aload_n dX0_countReferences_52 1 rfl ?_
          obtain ⟨r9, h9, h⟩ := hb_bind h
          refine hs_getR dX0_countReferences_53 lkX0_38 rfl h9 ?_
          refine hs_iload_n dX0_countReferences_56 2 rfl ?_
          refine hs_bipush (v := (8 : Int32)) dX0_countReferences_57 (by decide) ?_
          refine hs_idiv dX0_countReferences_59 (by decide) ?_
          refine hs_dup2 dX0_countReferences_60 rfl rfl ?_
          obtain ⟨r10, h10, h⟩ := hb_bind h
          refine hs_iald dX0_countReferences_61 h10 ?_
          refine hs_iconst (v := (1 : Int32)) dX0_countReferences_62 (by decide) ?_
          refine hs_iadd dX0_countReferences_63 ?_
          obtain ⟨r11, h11, h⟩ := hb_bind h
          refine hs_iast dX0_countReferences_64 h11 ?_
          refine hs_sub (lv' := [(0, .ref x0), (1, .int x1)]) [1, 2] rfl ?_
          exact c_X0_countReferences_b65 (f_X0_countReferences_b18 n) ih h
set_option maxHeartbeats 4000000 in
set_option maxRecDepth 20000 in
theorem c_X0_countReferences {G : hb_G} {l : Launch} {z : Bool} {x0 : Nat} {σ : hb_M} {r : hb_M} (h : f_X0_countReferences x0 σ = some r) : hb_Call G l z 1 0 0 mX0_countReferences [.ref x0] σ (.inl none, r) := by
  refine hb_met (by decide) (Nat.le_of_ble_eq_true rfl) ?_
  unfold f_X0_countReferences at h
  refine hs_aload_n dX0_countReferences_0 0 rfl ?_
  obtain ⟨r1, h1, h⟩ := hb_bind h
  refine hs_getR dX0_countReferences_1 lkX0_35 rfl h1 ?_
  refine hs_iconst (v := (0 : Int32)) dX0_countReferences_4 (by decide) ?_
  obtain ⟨r2, h2, h⟩ := hb_bind h
  refine hs_callSv (μ' := mJ7_fill_53178) (mc := 0) (ms := 0) (rc := 0) (rs := 0) (As := [.ref r1, .int (0 : Int32)]) (rest := []) dX0_countReferences_5 lmX0_127 okJ7_fill_53178 rfl (by decide) rfl (Nat.le_of_ble_eq_true rfl) (c_J7_fill_53178 h2) ?_
  refine hs_aload_n dX0_countReferences_8 0 rfl ?_
  obtain ⟨r3, h3, h⟩ := hb_bind h
  refine hs_getR dX0_countReferences_9 lkX0_38 rfl h3 ?_
  refine hs_iconst (v := (0 : Int32)) dX0_countReferences_12 (by decide) ?_
  obtain ⟨r4, h4, h⟩ := hb_bind h
  refine hs_callSv (μ' := mJ7_fill_53178) (mc := 0) (ms := 0) (rc := 0) (rs := 0) (As := [.ref r3, .int (0 : Int32)]) (rest := []) dX0_countReferences_13 lmX0_127 okJ7_fill_53178 rfl (by decide) rfl (Nat.le_of_ble_eq_true rfl) (c_J7_fill_53178 h4) ?_
  refine hs_iconst (v := (0 : Int32)) dX0_countReferences_16 (by decide) ?_
  refine hs_istore_n (lv' := [(1, .int (0 : Int32)), (0, .ref x0)]) dX0_countReferences_17 (by decide) rfl ?_
  refine hs_sub (lv' := [(0, .ref x0), (1, .int (0 : Int32))]) [1, 0] rfl ?_
  exact c_X0_countReferences_b18 hb_FU _ _ _ _ h
def mX0_findLed : hb_Y := (yX0_findLed, cX0_findLed, 5, none, [], false)
theorem okX0_findLed : hb_okV mX0_findLed 0 := ⟨⟨hb_w 4 (by decide +kernel) (by decide +kernel), hb_w 415 (by decide +kernel) (by decide +kernel), ⟨by decide +kernel, by decide +kernel, by decide +kernel⟩, by decide⟩, hb_w 414 (by decide +kernel) (by decide +kernel), hb_wp (q := (yX0_findLed, 13)) 6 (by decide +kernel) (by decide +kernel)⟩
set_option maxHeartbeats 4000000 in
set_option maxRecDepth 20000 in
theorem c_X0_findLed_b119 {G : hb_G} {l : Launch} {z : Bool}  (k56 : Nat → Int32 → hb_M → Option hb_M) (hk56 : ∀ (x0 : Nat) (x3 : Int32) (σ : hb_M) (r : hb_M), k56 x0 x3 σ = some r → hb_T G l z mX0_findLed 2 0 0 56 [(0, .ref x0), (3, .int x3)] [] σ (.inl none, r))  {x0 : Nat} {x3 : Int32} {σ : hb_M} {r : hb_M} (h : f_X0_findLed_b119 k56 x0 x3 σ = some r) : hb_T G l z mX0_findLed 2 0 0 119 [(0, .ref x0), (3, .int x3)] [] σ (.inl none, r) := by
  unfold f_X0_findLed_b119 at h
  refine hs_iinc2 (k := (1 : Int32)) (lv' := [(3, .int (x3 + (1 : Int32))), (0, .ref x0)]) dX0_findLed_119 (by decide) 1 rfl (by decide) rfl ?_
  refine hs_goto (tgt := 56) dX0_findLed_122 (by decide) ?_
  refine hs_sub (lv' := [(0, .ref x0), (3, .int (x3 + (1 : Int32)))]) [1, 0] rfl ?_
  exact hk56 _ _ _ _ h
set_option maxHeartbeats 4000000 in
set_option maxRecDepth 20000 in
theorem c_X0_findLed_b113 {G : hb_G} {l : Launch} {z : Bool}  (k56 : Nat → Int32 → hb_M → Option hb_M) (hk56 : ∀ (x0 : Nat) (x3 : Int32) (σ : hb_M) (r : hb_M), k56 x0 x3 σ = some r → hb_T G l z mX0_findLed 2 0 0 56 [(0, .ref x0), (3, .int x3)] [] σ (.inl none, r)) (k65 : Nat → Int32 → Int32 → hb_M → Option hb_M) (hk65 : ∀ (x0 : Nat) (x3 : Int32) (x4 : Int32) (σ : hb_M) (r : hb_M), k65 x0 x3 x4 σ = some r → hb_T G l z mX0_findLed 2 0 0 65 [(0, .ref x0), (3, .int x3), (4, .int x4)] [] σ (.inl none, r))  {x0 : Nat} {x3 : Int32} {x4 : Int32} {σ : hb_M} {r : hb_M} (h : f_X0_findLed_b113 k56 k65 x0 x3 x4 σ = some r) : hb_T G l z mX0_findLed 2 0 0 113 [(0, .ref x0), (3, .int x3), (4, .int x4)] [] σ (.inl none, r) := by
  unfold f_X0_findLed_b113 at h
  refine hs_iinc2 (k := (1 : Int32)) (lv' := [(4, .int (x4 + (1 : Int32))), (0, .ref x0), (3, .int x3)]) dX0_findLed_113 (by decide) 2 rfl (by decide) rfl ?_
  refine hs_goto (tgt := 65) dX0_findLed_116 (by decide) ?_
  refine hs_sub (lv' := [(0, .ref x0), (3, .int x3), (4, .int (x4 + (1 : Int32)))]) [1, 2, 0] rfl ?_
  exact hk65 _ _ _ _ _ h
set_option maxHeartbeats 4000000 in
set_option maxRecDepth 20000 in
theorem c_X0_findLed_b65 {G : hb_G} {l : Launch} {z : Bool}  (k56 : Nat → Int32 → hb_M → Option hb_M) (hk56 : ∀ (x0 : Nat) (x3 : Int32) (σ : hb_M) (r : hb_M), k56 x0 x3 σ = some r → hb_T G l z mX0_findLed 2 0 0 56 [(0, .ref x0), (3, .int x3)] [] σ (.inl none, r)) : ∀ (n : Nat) (x0 : Nat) (x3 : Int32) (x4 : Int32) (σ : hb_M) (r : hb_M), f_X0_findLed_b65 k56 n x0 x3 x4 σ = some r → hb_T G l z mX0_findLed 2 0 0 65 [(0, .ref x0), (3, .int x3), (4, .int x4)] [] σ (.inl none, r) := by
  intro n
  induction n with
  | zero =>
    intro x0 x3 x4 σ r h
    cases h
  | succ n ih =>
    intro x0 x3 x4 σ r h
    rw [f_X0_findLed_b65] at h
    refine hs_iload dX0_findLed_65 2 rfl ?_
    refine hs_bipush (v := (40 : Int32)) dX0_findLed_67 (by decide) ?_
    refine hs_icmp_ge (tgt := 119) dX0_findLed_69 (by decide) (fun hc1 => ?_) (fun hc1 => ?_)
    · rw [if_pos hc1] at h
      refine hs_sub (lv' := [(0, .ref x0), (3, .int x3)]) [0, 1] rfl ?_
      exact c_X0_findLed_b119 k56 hk56 h
    · rw [if_neg hc1] at h
      refine hs_aload_n dX0_findLed_72 0 rfl ?_
      obtain ⟨r2, h2, h⟩ := hb_bind h
      refine hs_getR dX0_findLed_73 lkX0_41 rfl h2 ?_
      refine hs_iload_n dX0_findLed_76 1 rfl ?_
      obtain ⟨r3, h3, h⟩ := hb_bind h
      refine hs_lald dX0_findLed_77 h3 ?_
      refine hs_lconst (v := (0 : Int64)) dX0_findLed_78 (by decide) ?_
      refine hs_lcmp dX0_findLed_79 ?_
      refine hs_if_eq (tgt := 119) dX0_findLed_80 (by decide) (fun hc4 => ?_) (fun hc4 => ?_)
      · rw [if_pos hc4] at h
        refine hs_sub (lv' := [(0, .ref x0), (3, .int x3)]) [0, 1] rfl ?_
        exact c_X0_findLed_b119 k56 hk56 h
      · rw [if_neg hc4] at h
        refine hs_aload_n dX0_findLed_83 0 rfl ?_
        obtain ⟨r5, h5, h⟩ := hb_bind h
        refine hs_getR dX0_findLed_84 lkX0_41 rfl h5 ?_
        refine hs_iload dX0_findLed_87 2 rfl ?_
        obtain ⟨r6, h6, h⟩ := hb_bind h
        refine hs_lald dX0_findLed_89 h6 ?_
        refine hs_iload_n dX0_findLed_90 1 rfl ?_
        obtain ⟨r7, h7, h⟩ := hb_bind h
        refine hs_callSNi (μ' := mX8_contains) (mc := 0) (ms := 0) (rc := 0) (rs := 0) (As := [.long r6, .int x3]) (rest := []) dX0_findLed_91 lnX0_101 okX8_contains rfl (by decide) rfl (Nat.le_of_ble_eq_true rfl) (c_X8_contains h7) ?_
        refine hs_if_eq (tgt := 113) dX0_findLed_94 (by decide) (fun hc8 => ?_) (fun hc8 => ?_)
        · rw [if_pos hc8] at h
          refine hs_sub (lv' := [(0, .ref x0), (3, .int x3), (4, .int x4)]) [0, 1, 2] rfl ?_
          exact c_X0_findLed_b113 k56 hk56 (f_X0_findLed_b65 k56 n) ih h
        · rw [if_neg hc8] at h
          refine hs_aload_n dX0_findLed_97 0 rfl ?_
          obtain ⟨r9, h9, h⟩ := hb_bind h
          refine hs_getR dX0_findLed_98 lkX0_41 rfl h9 ?_
          refine hs_iload dX0_findLed_101 2 rfl ?_
          refine hs_dup2 dX0_findLed_103 rfl rfl ?_
          obtain ⟨r10, h10, h⟩ := hb_bind h
          refine hs_lald dX0_findLed_104 h10 ?_
          refine hs_aload_n dX0_findLed_105 0 rfl ?_
          obtain ⟨r11, h11, h⟩ := hb_bind h
          refine hs_getR dX0_findLed_106 lkX0_41 rfl h11 ?_
          refine hs_iload_n dX0_findLed_109 1 rfl ?_
          obtain ⟨r12, h12, h⟩ := hb_bind h
          refine hs_lald dX0_findLed_110 h12 ?_
          refine hs_lor dX0_findLed_111 ?_
          obtain ⟨r13, h13, h⟩ := hb_bind h
          refine hs_last dX0_findLed_112 h13 ?_
          refine hs_sub (lv' := [(0, .ref x0), (3, .int x3), (4, .int x4)]) [0, 1, 2] rfl ?_
          exact c_X0_findLed_b113 k56 hk56 (f_X0_findLed_b65 k56 n) ih h
set_option maxHeartbeats 4000000 in
set_option maxRecDepth 20000 in
theorem c_X0_findLed_b56 {G : hb_G} {l : Launch} {z : Bool} : ∀ (n : Nat) (x0 : Nat) (x3 : Int32) (σ : hb_M) (r : hb_M), f_X0_findLed_b56 n x0 x3 σ = some r → hb_T G l z mX0_findLed 2 0 0 56 [(0, .ref x0), (3, .int x3)] [] σ (.inl none, r) := by
  intro n
  induction n with
  | zero =>
    intro x0 x3 σ r h
    cases h
  | succ n ih =>
    intro x0 x3 σ r h
    rw [f_X0_findLed_b56] at h
    refine hs_iload_n dX0_findLed_56 1 rfl ?_
    refine hs_bipush (v := (40 : Int32)) dX0_findLed_57 (by decide) ?_
    refine hs_icmp_ge (tgt := 125) dX0_findLed_59 (by decide) (fun hc1 => ?_) (fun hc1 => ?_)
    · rw [if_pos hc1] at h
      obtain rfl := Option.some.inj h
      exact hs_return dX0_findLed_125 rfl (fun _ => rfl)
    · rw [if_neg hc1] at h
      refine hs_iconst (v := (0 : Int32)) dX0_findLed_62 (by decide) ?_
      refine hs_istore (lv' := [(4, .int (0 : Int32)), (0, .ref x0), (3, .int x3)]) dX0_findLed_63 (by decide) rfl ?_
      refine hs_sub (lv' := [(0, .ref x0), (3, .int x3), (4, .int (0 : Int32))]) [1, 2, 0] rfl ?_
      exact c_X0_findLed_b65 (f_X0_findLed_b56 n) ih hb_FU _ _ _ _ _ h
set_option maxHeartbeats 4000000 in
set_option maxRecDepth 20000 in
theorem c_X0_findLed_b47 {G : hb_G} {l : Launch} {z : Bool}  (k10 : Nat → Int64 → Int32 → hb_M → Option hb_M) (hk10 : ∀ (x0 : Nat) (x1 : Int64) (x3 : Int32) (σ : hb_M) (r : hb_M), k10 x0 x1 x3 σ = some r → hb_T G l z mX0_findLed 2 0 0 10 [(0, .ref x0), (1, .long x1), (3, .int x3)] [] σ (.inl none, r))  {x0 : Nat} {x1 : Int64} {x3 : Int32} {s0 : Nat} {s1 : Int32} {s2 : Int64} {σ : hb_M} {r : hb_M} (h : f_X0_findLed_b47 k10 x0 x1 x3 s0 s1 s2 σ = some r) : hb_T G l z mX0_findLed 2 0 0 47 [(0, .ref x0), (1, .long x1), (3, .int x3)] [.long s2, .int s1, .ref s0] σ (.inl none, r) := by
  unfold f_X0_findLed_b47 at h
  obtain ⟨r1, h1, h⟩ := hb_bind h
  refine hs_last dX0_findLed_47 h1 ?_
  refine hs_iinc2 (k := (1 : Int32)) (lv' := [(3, .int (x3 + (1 : Int32))), (0, .ref x0), (1, .long x1)]) dX0_findLed_48 (by decide) 2 rfl (by decide) rfl ?_
  refine hs_goto (tgt := 10) dX0_findLed_51 (by decide) ?_
  refine hs_sub (lv' := [(0, .ref x0), (1, .long x1), (3, .int (x3 + (1 : Int32)))]) [1, 2, 0] rfl ?_
  exact hk10 _ _ _ _ _ h
set_option maxHeartbeats 4000000 in
set_option maxRecDepth 20000 in
theorem c_X0_findLed_b10 {G : hb_G} {l : Launch} {z : Bool} : ∀ (n : Nat) (x0 : Nat) (x1 : Int64) (x3 : Int32) (σ : hb_M) (r : hb_M), f_X0_findLed_b10 n x0 x1 x3 σ = some r → hb_T G l z mX0_findLed 2 0 0 10 [(0, .ref x0), (1, .long x1), (3, .int x3)] [] σ (.inl none, r) := by
  intro n
  induction n with
  | zero =>
    intro x0 x1 x3 σ r h
    cases h
  | succ n ih =>
    intro x0 x1 x3 σ r h
    rw [f_X0_findLed_b10] at h
    refine hs_iload_n dX0_findLed_10 2 rfl ?_
    refine hs_bipush (v := (40 : Int32)) dX0_findLed_11 (by decide) ?_
    refine hs_icmp_ge (tgt := 54) dX0_findLed_13 (by decide) (fun hc1 => ?_) (fun hc1 => ?_)
    · rw [if_pos hc1] at h
      refine hs_iconst (v := (0 : Int32)) dX0_findLed_54 (by decide) ?_
      refine hs_istore_n (lv' := [(3, .int (0 : Int32)), (0, .ref x0), (1, .long x1)]) dX0_findLed_55 (by decide) rfl ?_
      refine hs_sub (lv' := [(0, .ref x0), (3, .int (0 : Int32))]) [1, 0] rfl ?_
      exact c_X0_findLed_b56 hb_FU _ _ _ _ h
    · rw [if_neg hc1] at h
      refine hs_aload_n dX0_findLed_16 0 rfl ?_
      obtain ⟨r2, h2, h⟩ := hb_bind h
      refine hs_getR dX0_findLed_17 lkX0_41 rfl h2 ?_
      refine hs_iload_n dX0_findLed_20 2 rfl ?_
      refine hs_lload_n dX0_findLed_21 1 rfl ?_
      refine hs_iload_n dX0_findLed_22 2 rfl ?_
      obtain ⟨r3, h3, h⟩ := hb_bind h
      refine hs_callSNi (μ' := mX8_contains) (mc := 0) (ms := 0) (rc := 0) (rs := 0) (As := [.long x1, .int x3]) (rest := [.int x3, .ref r2]) dX0_findLed_23 lnX0_101 okX8_contains rfl (by decide) rfl (Nat.le_of_ble_eq_true rfl) (c_X8_contains h3) ?_
      refine hs_if_eq (tgt := 46) dX0_findLed_26 (by decide) (fun hc4 => ?_) (fun hc4 => ?_)
      · rw [if_pos hc4] at h
        refine hs_lconst (v := (0 : Int64)) dX0_findLed_46 (by decide) ?_
        refine hs_sub (lv' := [(0, .ref x0), (1, .long x1), (3, .int x3)]) [0, 1, 2] rfl ?_
        exact c_X0_findLed_b47 (f_X0_findLed_b10 n) ih h
      · rw [if_neg hc4] at h
        refine hs_iload_n dX0_findLed_29 2 rfl ?_
        obtain ⟨r5, h5, h⟩ := hb_bind h
        refine hs_callSNl (μ' := mX8_member) (mc := 0) (ms := 0) (rc := 0) (rs := 0) (As := [.int x3]) (rest := [.int x3, .ref r2]) dX0_findLed_30 lnX0_105 okX8_member rfl (by decide) rfl (Nat.le_of_ble_eq_true rfl) (c_X8_member h5) ?_
        refine hs_aload_n dX0_findLed_33 0 rfl ?_
        obtain ⟨r6, h6, h⟩ := hb_bind h
        refine hs_getR dX0_findLed_34 lkX0_21 rfl h6 ?_
        refine hs_iload_n dX0_findLed_37 2 rfl ?_
        refine hs_iconst (v := (-1 : Int32)) dX0_findLed_38 (by decide) ?_
        obtain ⟨r7, h7, h⟩ := hb_bind h
        refine hs_callSl (μ' := mX6_targetsOf) (mc := 0) (ms := 0) (rc := 0) (rs := 0) (As := [.ref r6, .int x3, .int (-1 : Int32)]) (rest := [.long r5.1, .int x3, .ref r2]) dX0_findLed_39 lmX0_136 okX6_targetsOf rfl (by decide) rfl (Nat.le_of_ble_eq_true rfl) (c_X6_targetsOf h7) ?_
        refine hs_lor dX0_findLed_42 ?_
        refine hs_goto (tgt := 47) dX0_findLed_43 (by decide) ?_
        refine hs_sub (lv' := [(0, .ref x0), (1, .long x1), (3, .int x3)]) [0, 1, 2] rfl ?_
        exact c_X0_findLed_b47 (f_X0_findLed_b10 n) ih h
set_option maxHeartbeats 4000000 in
set_option maxRecDepth 20000 in
theorem c_X0_findLed {G : hb_G} {l : Launch} {z : Bool} {x0 : Nat} {σ : hb_M} {r : hb_M} (h : f_X0_findLed x0 σ = some r) : hb_Call G l z 2 0 0 mX0_findLed [.ref x0] σ (.inl none, r) := by
  refine hb_met (by decide) (Nat.le_of_ble_eq_true rfl) ?_
  unfold f_X0_findLed at h
  refine hs_aload_n dX0_findLed_0 0 rfl ?_
  obtain ⟨r1, h1, h⟩ := hb_bind h
  refine hs_getR dX0_findLed_1 lkX0_47 rfl h1 ?_
  obtain ⟨r2, h2, h⟩ := hb_bind h
  obtain ⟨h2, nf2, hb2⟩ := hb_on_at h2
  refine hs_callVl (μ' := mX4_allObjects) (mc := 0) (ms := 0) (rc := 0) (rs := 0) (As := []) (rest := []) (ci := 4) dX0_findLed_4 lmX0_133 okX4_allObjects rfl (by decide) rfl (Nat.le_of_ble_eq_true rfl) rfl hb2 (c_X4_allObjects h2) ?_
  refine hs_lstore_n (lv' := [(1, .long r2.1), (0, .ref x0)]) dX0_findLed_7 (by decide) rfl ?_
  refine hs_iconst (v := (0 : Int32)) dX0_findLed_8 (by decide) ?_
  refine hs_istore_n (lv' := [(3, .int (0 : Int32)), (1, .long r2.1), (0, .ref x0)]) dX0_findLed_9 (by decide) rfl ?_
  refine hs_sub (lv' := [(0, .ref x0), (1, .long r2.1), (3, .int (0 : Int32))]) [2, 1, 0] rfl ?_
  exact c_X0_findLed_b10 hb_FU _ _ _ _ _ h
def mX0_findComponents : hb_Y := (yX0_findComponents, cX0_findComponents, 4, none, [], false)
theorem okX0_findComponents : hb_okV mX0_findComponents 0 := ⟨⟨hb_w 4 (by decide +kernel) (by decide +kernel), hb_w 424 (by decide +kernel) (by decide +kernel), ⟨by decide +kernel, by decide +kernel, by decide +kernel⟩, by decide⟩, hb_w 423 (by decide +kernel) (by decide +kernel), hb_wp (q := (yX0_findComponents, 13)) 7 (by decide +kernel) (by decide +kernel)⟩
set_option maxHeartbeats 4000000 in
set_option maxRecDepth 20000 in
theorem c_X0_findComponents_b56 {G : hb_G} {l : Launch} {z : Bool}  (k2 : Nat → Int32 → hb_M → Option hb_M) (hk2 : ∀ (x0 : Nat) (x1 : Int32) (σ : hb_M) (r : hb_M), k2 x0 x1 σ = some r → hb_T G l z mX0_findComponents 1 0 0 2 [(0, .ref x0), (1, .int x1)] [] σ (.inl none, r))  {x0 : Nat} {x1 : Int32} {x2 : Int32} {σ : hb_M} {r : hb_M} (h : f_X0_findComponents_b56 k2 x0 x1 x2 σ = some r) : hb_T G l z mX0_findComponents 1 0 0 56 [(0, .ref x0), (1, .int x1), (2, .int x2)] [] σ (.inl none, r) := by
  unfold f_X0_findComponents_b56 at h
  refine hs_aload_n dX0_findComponents_56 0 rfl ?_
  obtain ⟨r1, h1, h⟩ := hb_bind h
  refine hs_getR dX0_findComponents_57 lkX0_44 rfl h1 ?_
  refine hs_iload_n dX0_findComponents_60 1 rfl ?_
  refine hs_iload_n dX0_findComponents_61 2 rfl ?_
  obtain ⟨r2, h2, h⟩ := hb_bind h
  refine hs_iast dX0_findComponents_62 h2 ?_
  refine hs_iinc2 (k := (1 : Int32)) (lv' := [(1, .int (x1 + (1 : Int32))), (0, .ref x0), (2, .int x2)]) dX0_findComponents_63 (by decide) 1 rfl (by decide) rfl ?_
  refine hs_goto (tgt := 2) dX0_findComponents_66 (by decide) ?_
  refine hs_sub (lv' := [(0, .ref x0), (1, .int (x1 + (1 : Int32)))]) [1, 0] rfl ?_
  exact hk2 _ _ _ _ h
set_option maxHeartbeats 4000000 in
set_option maxRecDepth 20000 in
theorem c_X0_findComponents_b50 {G : hb_G} {l : Launch} {z : Bool}  (k2 : Nat → Int32 → hb_M → Option hb_M) (hk2 : ∀ (x0 : Nat) (x1 : Int32) (σ : hb_M) (r : hb_M), k2 x0 x1 σ = some r → hb_T G l z mX0_findComponents 1 0 0 2 [(0, .ref x0), (1, .int x1)] [] σ (.inl none, r)) (k12 : Nat → Int32 → Int32 → Int32 → hb_M → Option hb_M) (hk12 : ∀ (x0 : Nat) (x1 : Int32) (x2 : Int32) (x3 : Int32) (σ : hb_M) (r : hb_M), k12 x0 x1 x2 x3 σ = some r → hb_T G l z mX0_findComponents 1 0 0 12 [(0, .ref x0), (1, .int x1), (2, .int x2), (3, .int x3)] [] σ (.inl none, r))  {x0 : Nat} {x1 : Int32} {x2 : Int32} {x3 : Int32} {σ : hb_M} {r : hb_M} (h : f_X0_findComponents_b50 k2 k12 x0 x1 x2 x3 σ = some r) : hb_T G l z mX0_findComponents 1 0 0 50 [(0, .ref x0), (1, .int x1), (2, .int x2), (3, .int x3)] [] σ (.inl none, r) := by
  unfold f_X0_findComponents_b50 at h
  refine hs_iinc2 (k := (1 : Int32)) (lv' := [(3, .int (x3 + (1 : Int32))), (0, .ref x0), (1, .int x1), (2, .int x2)]) dX0_findComponents_50 (by decide) 3 rfl (by decide) rfl ?_
  refine hs_goto (tgt := 12) dX0_findComponents_53 (by decide) ?_
  refine hs_sub (lv' := [(0, .ref x0), (1, .int x1), (2, .int x2), (3, .int (x3 + (1 : Int32)))]) [1, 2, 3, 0] rfl ?_
  exact hk12 _ _ _ _ _ _ h
set_option maxHeartbeats 4000000 in
set_option maxRecDepth 20000 in
theorem c_X0_findComponents_b12 {G : hb_G} {l : Launch} {z : Bool}  (k2 : Nat → Int32 → hb_M → Option hb_M) (hk2 : ∀ (x0 : Nat) (x1 : Int32) (σ : hb_M) (r : hb_M), k2 x0 x1 σ = some r → hb_T G l z mX0_findComponents 1 0 0 2 [(0, .ref x0), (1, .int x1)] [] σ (.inl none, r)) : ∀ (n : Nat) (x0 : Nat) (x1 : Int32) (x2 : Int32) (x3 : Int32) (σ : hb_M) (r : hb_M), f_X0_findComponents_b12 k2 n x0 x1 x2 x3 σ = some r → hb_T G l z mX0_findComponents 1 0 0 12 [(0, .ref x0), (1, .int x1), (2, .int x2), (3, .int x3)] [] σ (.inl none, r) := by
  intro n
  induction n with
  | zero =>
    intro x0 x1 x2 x3 σ r h
    cases h
  | succ n ih =>
    intro x0 x1 x2 x3 σ r h
    rw [f_X0_findComponents_b12] at h
    refine hs_iload_n dX0_findComponents_12 3 rfl ?_
    refine hs_iload_n dX0_findComponents_13 1 rfl ?_
    refine hs_icmp_gt (tgt := 56) dX0_findComponents_14 (by decide) (fun hc1 => ?_) (fun hc1 => ?_)
    · rw [if_pos hc1] at h
      refine hs_sub (lv' := [(0, .ref x0), (1, .int x1), (2, .int x2)]) [0, 1, 2] rfl ?_
      exact c_X0_findComponents_b56 k2 hk2 h
    · rw [if_neg hc1] at h
      refine hs_iload_n dX0_findComponents_17 2 rfl ?_
      refine hs_iconst (v := (-1 : Int32)) dX0_findComponents_18 (by decide) ?_
      refine hs_icmp_ne (tgt := 56) dX0_findComponents_19 (by decide) (fun hc2 => ?_) (fun hc2 => ?_)
      · rw [if_neg hc2] at h
        refine hs_sub (lv' := [(0, .ref x0), (1, .int x1), (2, .int x2)]) [0, 1, 2] rfl ?_
        exact c_X0_findComponents_b56 k2 hk2 h
      · rw [if_pos hc2] at h
        refine hs_aload_n dX0_findComponents_22 0 rfl ?_
        obtain ⟨r3, h3, h⟩ := hb_bind h
        refine hs_getR dX0_findComponents_23 lkX0_41 rfl h3 ?_
        refine hs_iload_n dX0_findComponents_26 1 rfl ?_
        obtain ⟨r4, h4, h⟩ := hb_bind h
        refine hs_lald dX0_findComponents_27 h4 ?_
        refine hs_iload_n dX0_findComponents_28 3 rfl ?_
        obtain ⟨r5, h5, h⟩ := hb_bind h
        refine hs_callSNi (μ' := mX8_contains) (mc := 0) (ms := 0) (rc := 0) (rs := 0) (As := [.long r4, .int x3]) (rest := []) dX0_findComponents_29 lnX0_101 okX8_contains rfl (by decide) rfl (Nat.le_of_ble_eq_true rfl) (c_X8_contains h5) ?_
        refine hs_if_eq (tgt := 50) dX0_findComponents_32 (by decide) (fun hc6 => ?_) (fun hc6 => ?_)
        · rw [if_pos hc6] at h
          refine hs_sub (lv' := [(0, .ref x0), (1, .int x1), (2, .int x2), (3, .int x3)]) [0, 1, 2, 3] rfl ?_
          exact c_X0_findComponents_b50 k2 hk2 (f_X0_findComponents_b12 k2 n) ih h
        · rw [if_neg hc6] at h
          refine hs_aload_n dX0_findComponents_35 0 rfl ?_
          obtain ⟨r7, h7, h⟩ := hb_bind h
          refine hs_getR dX0_findComponents_36 lkX0_41 rfl h7 ?_
          refine hs_iload_n dX0_findComponents_39 3 rfl ?_
          obtain ⟨r8, h8, h⟩ := hb_bind h
          refine hs_lald dX0_findComponents_40 h8 ?_
          refine hs_iload_n dX0_findComponents_41 1 rfl ?_
          obtain ⟨r9, h9, h⟩ := hb_bind h
          refine hs_callSNi (μ' := mX8_contains) (mc := 0) (ms := 0) (rc := 0) (rs := 0) (As := [.long r8, .int x1]) (rest := []) dX0_findComponents_42 lnX0_101 okX8_contains rfl (by decide) rfl (Nat.le_of_ble_eq_true rfl) (c_X8_contains h9) ?_
          refine hs_if_eq (tgt := 50) dX0_findComponents_45 (by decide) (fun hc10 => ?_) (fun hc10 => ?_)
          · rw [if_pos hc10] at h
            refine hs_sub (lv' := [(0, .ref x0), (1, .int x1), (2, .int x2), (3, .int x3)]) [0, 1, 2, 3] rfl ?_
            exact c_X0_findComponents_b50 k2 hk2 (f_X0_findComponents_b12 k2 n) ih h
          · rw [if_neg hc10] at h
            refine hs_iload_n dX0_findComponents_48 3 rfl ?_
            refine hs_istore_n (lv' := [(2, .int x3), (0, .ref x0), (1, .int x1), (3, .int x3)]) dX0_findComponents_49 (by decide) rfl ?_
            refine hs_sub (lv' := [(0, .ref x0), (1, .int x1), (2, .int x3), (3, .int x3)]) [1, 2, 0, 3] rfl ?_
            exact c_X0_findComponents_b50 k2 hk2 (f_X0_findComponents_b12 k2 n) ih h
set_option maxHeartbeats 4000000 in
set_option maxRecDepth 20000 in
theorem c_X0_findComponents_b2 {G : hb_G} {l : Launch} {z : Bool} : ∀ (n : Nat) (x0 : Nat) (x1 : Int32) (σ : hb_M) (r : hb_M), f_X0_findComponents_b2 n x0 x1 σ = some r → hb_T G l z mX0_findComponents 1 0 0 2 [(0, .ref x0), (1, .int x1)] [] σ (.inl none, r) := by
  intro n
  induction n with
  | zero =>
    intro x0 x1 σ r h
    cases h
  | succ n ih =>
    intro x0 x1 σ r h
    rw [f_X0_findComponents_b2] at h
    refine hs_iload_n dX0_findComponents_2 1 rfl ?_
    refine hs_bipush (v := (40 : Int32)) dX0_findComponents_3 (by decide) ?_
    refine hs_icmp_ge (tgt := 69) dX0_findComponents_5 (by decide) (fun hc1 => ?_) (fun hc1 => ?_)
    · rw [if_pos hc1] at h
      obtain rfl := Option.some.inj h
      exact hs_return dX0_findComponents_69 rfl (fun _ => rfl)
    · rw [if_neg hc1] at h
      refine hs_iconst (v := (-1 : Int32)) dX0_findComponents_8 (by decide) ?_
      refine hs_istore_n (lv' := [(2, .int (-1 : Int32)), (0, .ref x0), (1, .int x1)]) dX0_findComponents_9 (by decide) rfl ?_
      refine hs_iconst (v := (0 : Int32)) dX0_findComponents_10 (by decide) ?_
      refine hs_istore_n (lv' := [(3, .int (0 : Int32)), (2, .int (-1 : Int32)), (0, .ref x0), (1, .int x1)]) dX0_findComponents_11 (by decide) rfl ?_
      refine hs_sub (lv' := [(0, .ref x0), (1, .int x1), (2, .int (-1 : Int32)), (3, .int (0 : Int32))]) [2, 3, 1, 0] rfl ?_
      exact c_X0_findComponents_b12 (f_X0_findComponents_b2 n) ih hb_FU _ _ _ _ _ _ h
set_option maxHeartbeats 4000000 in
set_option maxRecDepth 20000 in
theorem c_X0_findComponents {G : hb_G} {l : Launch} {z : Bool} {x0 : Nat} {σ : hb_M} {r : hb_M} (h : f_X0_findComponents x0 σ = some r) : hb_Call G l z 1 0 0 mX0_findComponents [.ref x0] σ (.inl none, r) := by
  refine hb_met (by decide) (Nat.le_of_ble_eq_true rfl) ?_
  unfold f_X0_findComponents at h
  refine hs_iconst (v := (0 : Int32)) dX0_findComponents_0 (by decide) ?_
  refine hs_istore_n (lv' := [(1, .int (0 : Int32)), (0, .ref x0)]) dX0_findComponents_1 (by decide) rfl ?_
  refine hs_sub (lv' := [(0, .ref x0), (1, .int (0 : Int32))]) [1, 0] rfl ?_
  exact c_X0_findComponents_b2 hb_FU _ _ _ _ h
def mX0_refresh : hb_Y := (yX0_refresh, cX0_refresh, 1, none, [], false)
theorem okX0_refresh : hb_okV mX0_refresh 0 := ⟨⟨hb_w 4 (by decide +kernel) (by decide +kernel), hb_w 346 (by decide +kernel) (by decide +kernel), ⟨by decide +kernel, by decide +kernel, by decide +kernel⟩, by decide⟩, hb_w 344 (by decide +kernel) (by decide +kernel), hb_w 345 (by decide +kernel) (by decide +kernel)⟩
set_option maxHeartbeats 4000000 in
set_option maxRecDepth 20000 in
theorem c_X0_refresh {G : hb_G} {l : Launch} {z : Bool} {x0 : Nat} {σ : hb_M} {r : hb_M} (h : f_X0_refresh x0 σ = some r) : hb_Call G l z 3 0 0 mX0_refresh [.ref x0] σ (.inl none, r) := by
  refine hb_met (by decide) (Nat.le_of_ble_eq_true rfl) ?_
  unfold f_X0_refresh at h
  refine hs_aload_n dX0_refresh_0 0 rfl ?_
  obtain ⟨r1, h1, h⟩ := hb_bind h
  refine hs_getI dX0_refresh_1 lkX0_51 rfl h1 ?_
  refine hs_aload_n dX0_refresh_4 0 rfl ?_
  obtain ⟨r2, h2, h⟩ := hb_bind h
  refine hs_getR dX0_refresh_5 lkX0_47 rfl h2 ?_
  obtain ⟨r3, h3, h⟩ := hb_bind h
  refine hs_getI dX0_refresh_8 lkX0_55 rfl h3 ?_
  refine hs_icmp_ne (tgt := 15) dX0_refresh_11 (by decide) (fun hc4 => ?_) (fun hc4 => ?_)
  · rw [if_neg hc4] at h
    refine hs_aload_n dX0_refresh_15 0 rfl ?_
    refine hs_aload_n dX0_refresh_16 0 rfl ?_
    obtain ⟨r5, h5, h⟩ := hb_bind h
    refine hs_getR dX0_refresh_17 lkX0_47 rfl h5 ?_
    obtain ⟨r6, h6, h⟩ := hb_bind h
    refine hs_getI dX0_refresh_20 lkX0_55 rfl h6 ?_
    obtain ⟨r7, h7, h⟩ := hb_bind h
    refine hs_putI dX0_refresh_23 lpX0_refresh_51 rfl h7 ?_
    refine hs_aload_n dX0_refresh_26 0 rfl ?_
    obtain ⟨r8, h8, h⟩ := hb_bind h
    refine hs_getR dX0_refresh_27 lkX0_47 rfl h8 ?_
    refine hs_aload_n dX0_refresh_30 0 rfl ?_
    obtain ⟨r9, h9, h⟩ := hb_bind h
    refine hs_getR dX0_refresh_31 lkX0_21 rfl h9 ?_
    obtain ⟨r10, h10, h⟩ := hb_bind h
    obtain ⟨h10, nf10, hb10⟩ := hb_on_at h10
    refine hs_callVv (μ' := mX4_writeReferences) (mc := 0) (ms := 0) (rc := 0) (rs := 0) (As := [.ref r9]) (rest := []) (ci := 4) dX0_refresh_34 lmX0_60 okX4_writeReferences rfl (by decide) rfl (Nat.le_of_ble_eq_true rfl) rfl hb10 (c_X4_writeReferences h10) ?_
    refine hs_aload_n dX0_refresh_37 0 rfl ?_
    obtain ⟨r11, h11, h⟩ := hb_bind h
    refine hs_getR dX0_refresh_38 lkX0_12 rfl h11 ?_
    refine hs_aload_n dX0_refresh_41 0 rfl ?_
    obtain ⟨r12, h12, h⟩ := hb_bind h
    refine hs_getR dX0_refresh_42 lkX0_21 rfl h12 ?_
    refine hs_aload_n dX0_refresh_45 0 rfl ?_
    obtain ⟨r13, h13, h⟩ := hb_bind h
    refine hs_getR dX0_refresh_46 lkX0_47 rfl h13 ?_
    obtain ⟨r14, h14, h⟩ := hb_bind h
    obtain ⟨h14, nf14, hb14⟩ := hb_on_at h14
    refine hs_callVl (μ' := mX4_allRoots) (mc := 0) (ms := 0) (rc := 0) (rs := 0) (As := []) (rest := [.ref r12, .ref r11]) (ci := 4) dX0_refresh_49 lmX0_64 okX4_allRoots rfl (by decide) rfl (Nat.le_of_ble_eq_true rfl) rfl hb14 (c_X4_allRoots h14) ?_
    refine hs_lconst (v := (0 : Int64)) dX0_refresh_52 (by decide) ?_
    refine hs_iconst (v := (-1 : Int32)) dX0_refresh_53 (by decide) ?_
    obtain ⟨r15, h15, h⟩ := hb_bind h
    obtain ⟨h15, nf15, hb15⟩ := hb_on_at h15
    refine hs_callVv (μ' := mX6_run) (mc := 0) (ms := 0) (rc := 0) (rs := 0) (As := [.ref r12, .long r14.1, .long (0 : Int64), .int (-1 : Int32)]) (rest := []) (ci := 6) dX0_refresh_54 lmX0_68 okX6_run rfl (by decide) rfl (Nat.le_of_ble_eq_true rfl) rfl hb15 (c_X6_run h15) ?_
    refine hs_aload_n dX0_refresh_57 0 rfl ?_
    refine hs_aload_n dX0_refresh_58 0 rfl ?_
    obtain ⟨r16, h16, h⟩ := hb_bind h
    refine hs_getR dX0_refresh_59 lkX0_47 rfl h16 ?_
    refine hs_aload_n dX0_refresh_62 0 rfl ?_
    obtain ⟨r17, h17, h⟩ := hb_bind h
    refine hs_getR dX0_refresh_63 lkX0_12 rfl h17 ?_
    obtain ⟨r18, h18, h⟩ := hb_bind h
    refine hs_getL dX0_refresh_66 lkX0_72 rfl h18 ?_
    obtain ⟨r19, h19, h⟩ := hb_bind h
    obtain ⟨h19, nf19, hb19⟩ := hb_on_at h19
    refine hs_callVi (μ' := mX4_sizeOfAll) (mc := 0) (ms := 0) (rc := 0) (rs := 0) (As := [.long r18]) (rest := [.ref x0]) (ci := 4) dX0_refresh_69 lmX0_76 okX4_sizeOfAll rfl (by decide) rfl (Nat.le_of_ble_eq_true rfl) rfl hb19 (c_X4_sizeOfAll h19) ?_
    obtain ⟨r20, h20, h⟩ := hb_bind h
    refine hs_putI dX0_refresh_72 lpX0_refresh_80 rfl h20 ?_
    refine hs_aload_n dX0_refresh_75 0 rfl ?_
    obtain ⟨r21, h21, h⟩ := hb_bind h
    obtain ⟨h21, nf21, hb21⟩ := hb_on_at h21
    refine hs_callVv (μ' := mX0_findDominators) (mc := 0) (ms := 0) (rc := 0) (rs := 0) (As := []) (rest := []) (ci := 0) dX0_refresh_76 lmX0_83 okX0_findDominators rfl (by decide) rfl (Nat.le_of_ble_eq_true rfl) rfl hb21 (c_X0_findDominators h21) ?_
    refine hs_aload_n dX0_refresh_79 0 rfl ?_
    obtain ⟨r22, h22, h⟩ := hb_bind h
    obtain ⟨h22, nf22, hb22⟩ := hb_on_at h22
    refine hs_callVv (μ' := mX0_findImmediate) (mc := 0) (ms := 0) (rc := 0) (rs := 0) (As := []) (rest := []) (ci := 0) dX0_refresh_80 lmX0_86 okX0_findImmediate rfl (by decide) rfl (Nat.le_of_ble_eq_true rfl) rfl hb22 (c_X0_findImmediate h22) ?_
    refine hs_aload_n dX0_refresh_83 0 rfl ?_
    obtain ⟨r23, h23, h⟩ := hb_bind h
    obtain ⟨h23, nf23, hb23⟩ := hb_on_at h23
    refine hs_callVv (μ' := mX0_findRetained) (mc := 0) (ms := 0) (rc := 0) (rs := 0) (As := []) (rest := []) (ci := 0) dX0_refresh_84 lmX0_89 okX0_findRetained rfl (by decide) rfl (Nat.le_of_ble_eq_true rfl) rfl hb23 (c_X0_findRetained h23) ?_
    refine hs_aload_n dX0_refresh_87 0 rfl ?_
    obtain ⟨r24, h24, h⟩ := hb_bind h
    obtain ⟨h24, nf24, hb24⟩ := hb_on_at h24
    refine hs_callVv (μ' := mX0_countReferences) (mc := 0) (ms := 0) (rc := 0) (rs := 0) (As := []) (rest := []) (ci := 0) dX0_refresh_88 lmX0_92 okX0_countReferences rfl (by decide) rfl (Nat.le_of_ble_eq_true rfl) rfl hb24 (c_X0_countReferences h24) ?_
    refine hs_aload_n dX0_refresh_91 0 rfl ?_
    obtain ⟨r25, h25, h⟩ := hb_bind h
    obtain ⟨h25, nf25, hb25⟩ := hb_on_at h25
    refine hs_callVv (μ' := mX0_findLed) (mc := 0) (ms := 0) (rc := 0) (rs := 0) (As := []) (rest := []) (ci := 0) dX0_refresh_92 lmX0_95 okX0_findLed rfl (by decide) rfl (Nat.le_of_ble_eq_true rfl) rfl hb25 (c_X0_findLed h25) ?_
    refine hs_aload_n dX0_refresh_95 0 rfl ?_
    obtain ⟨r26, h26, h⟩ := hb_bind h
    obtain ⟨h26, nf26, hb26⟩ := hb_on_at h26
    refine hs_callVv (μ' := mX0_findComponents) (mc := 0) (ms := 0) (rc := 0) (rs := 0) (As := []) (rest := []) (ci := 0) dX0_refresh_96 lmX0_98 okX0_findComponents rfl (by decide) rfl (Nat.le_of_ble_eq_true rfl) rfl hb26 (c_X0_findComponents h26) ?_
    obtain rfl := Option.some.inj h
    exact hs_return dX0_refresh_99 rfl (fun _ => rfl)
  · rw [if_pos hc4] at h
    obtain rfl := Option.some.inj h
    exact hs_return dX0_refresh_14 rfl (fun _ => rfl)
def mX0_sizeOfComponent : hb_Y := (yX0_sizeOfComponent, cX0_sizeOfComponent, 4, (some .int), [], false)
set_option maxHeartbeats 4000000 in
set_option maxRecDepth 20000 in
theorem c_X0_sizeOfComponent_b31 {G : hb_G} {l : Launch} {z : Bool}  (k4 : Nat → Int32 → Int32 → Int32 → hb_M → Option (Int32 × hb_M)) (hk4 : ∀ (x0 : Nat) (x1 : Int32) (x2 : Int32) (x3 : Int32) (σ : hb_M) (r : (Int32 × hb_M)), k4 x0 x1 x2 x3 σ = some r → hb_T G l z mX0_sizeOfComponent 0 0 0 4 [(0, .ref x0), (1, .int x1), (2, .int x2), (3, .int x3)] [] σ (.inl (some (.int r.1)), r.2))  {x0 : Nat} {x1 : Int32} {x3 : Int32} {s0 : Int32} {s1 : Int32} {σ : hb_M} {r : (Int32 × hb_M)} (h : f_X0_sizeOfComponent_b31 k4 x0 x1 x3 s0 s1 σ = some r) : hb_T G l z mX0_sizeOfComponent 0 0 0 31 [(0, .ref x0), (1, .int x1), (3, .int x3)] [.int s1, .int s0] σ (.inl (some (.int r.1)), r.2) := by
  unfold f_X0_sizeOfComponent_b31 at h
  refine hs_iadd dX0_sizeOfComponent_31 ?_
  refine hs_istore_n (lv' := [(2, .int (s0 + s1)), (0, .ref x0), (1, .int x1), (3, .int x3)]) dX0_sizeOfComponent_32 (by decide) rfl ?_
  refine hs_iinc2 (k := (1 : Int32)) (lv' := [(3, .int (x3 + (1 : Int32))), (2, .int (s0 + s1)), (0, .ref x0), (1, .int x1)]) dX0_sizeOfComponent_33 (by decide) 3 rfl (by decide) rfl ?_
  refine hs_goto (tgt := 4) dX0_sizeOfComponent_36 (by decide) ?_
  refine hs_sub (lv' := [(0, .ref x0), (1, .int x1), (2, .int (s0 + s1)), (3, .int (x3 + (1 : Int32)))]) [2, 3, 1, 0] rfl ?_
  exact hk4 _ _ _ _ _ _ h
set_option maxHeartbeats 4000000 in
set_option maxRecDepth 20000 in
theorem c_X0_sizeOfComponent_b4 {G : hb_G} {l : Launch} {z : Bool} : ∀ (n : Nat) (x0 : Nat) (x1 : Int32) (x2 : Int32) (x3 : Int32) (σ : hb_M) (r : (Int32 × hb_M)), f_X0_sizeOfComponent_b4 n x0 x1 x2 x3 σ = some r → hb_T G l z mX0_sizeOfComponent 0 0 0 4 [(0, .ref x0), (1, .int x1), (2, .int x2), (3, .int x3)] [] σ (.inl (some (.int r.1)), r.2) := by
  intro n
  induction n with
  | zero =>
    intro x0 x1 x2 x3 σ r h
    cases h
  | succ n ih =>
    intro x0 x1 x2 x3 σ r h
    rw [f_X0_sizeOfComponent_b4] at h
    refine hs_iload_n dX0_sizeOfComponent_4 3 rfl ?_
    refine hs_bipush (v := (40 : Int32)) dX0_sizeOfComponent_5 (by decide) ?_
    refine hs_icmp_ge (tgt := 39) dX0_sizeOfComponent_7 (by decide) (fun hc1 => ?_) (fun hc1 => ?_)
    · rw [if_pos hc1] at h
      refine hs_iload_n dX0_sizeOfComponent_39 2 rfl ?_
      obtain rfl := Option.some.inj h
      exact hs_ireturn dX0_sizeOfComponent_40 rfl (by rfl) (fun _ => rfl)
    · rw [if_neg hc1] at h
      refine hs_iload_n dX0_sizeOfComponent_10 2 rfl ?_
      refine hs_aload_n dX0_sizeOfComponent_11 0 rfl ?_
      obtain ⟨r2, h2, h⟩ := hb_bind h
      refine hs_getR dX0_sizeOfComponent_12 lkX0_44 rfl h2 ?_
      refine hs_iload_n dX0_sizeOfComponent_15 3 rfl ?_
      obtain ⟨r3, h3, h⟩ := hb_bind h
      refine hs_iald dX0_sizeOfComponent_16 h3 ?_
      refine hs_aload_n dX0_sizeOfComponent_17 0 rfl ?_
      obtain ⟨r4, h4, h⟩ := hb_bind h
      refine hs_getR dX0_sizeOfComponent_18 lkX0_44 rfl h4 ?_
      refine hs_iload_n dX0_sizeOfComponent_21 1 rfl ?_
      obtain ⟨r5, h5, h⟩ := hb_bind h
      refine hs_iald dX0_sizeOfComponent_22 h5 ?_
      refine hs_icmp_ne (tgt := 30) dX0_sizeOfComponent_23 (by decide) (fun hc6 => ?_) (fun hc6 => ?_)
      · rw [if_neg hc6] at h
        refine hs_iconst (v := (0 : Int32)) dX0_sizeOfComponent_30 (by decide) ?_
        refine hs_sub (lv' := [(0, .ref x0), (1, .int x1), (3, .int x3)]) [0, 1, 3] rfl ?_
        exact c_X0_sizeOfComponent_b31 (f_X0_sizeOfComponent_b4 n) ih h
      · rw [if_pos hc6] at h
        refine hs_iconst (v := (1 : Int32)) dX0_sizeOfComponent_26 (by decide) ?_
        refine hs_goto (tgt := 31) dX0_sizeOfComponent_27 (by decide) ?_
        refine hs_sub (lv' := [(0, .ref x0), (1, .int x1), (3, .int x3)]) [0, 1, 3] rfl ?_
        exact c_X0_sizeOfComponent_b31 (f_X0_sizeOfComponent_b4 n) ih h
set_option maxHeartbeats 4000000 in
set_option maxRecDepth 20000 in
theorem c_X0_sizeOfComponent {G : hb_G} {l : Launch} {z : Bool} {x0 : Nat} {x1 : Int32} {σ : hb_M} {r : (Int32 × hb_M)} (h : f_X0_sizeOfComponent x0 x1 σ = some r) : hb_Call G l z 0 0 0 mX0_sizeOfComponent [.ref x0, .int x1] σ (.inl (some (.int r.1)), r.2) := by
  refine hb_met (by decide) (Nat.le_of_ble_eq_true rfl) ?_
  unfold f_X0_sizeOfComponent at h
  refine hs_iconst (v := (0 : Int32)) dX0_sizeOfComponent_0 (by decide) ?_
  refine hs_istore_n (lv' := [(2, .int (0 : Int32)), (0, .ref x0), (1, .int x1)]) dX0_sizeOfComponent_1 (by decide) rfl ?_
  refine hs_iconst (v := (0 : Int32)) dX0_sizeOfComponent_2 (by decide) ?_
  refine hs_istore_n (lv' := [(3, .int (0 : Int32)), (2, .int (0 : Int32)), (0, .ref x0), (1, .int x1)]) dX0_sizeOfComponent_3 (by decide) rfl ?_
  refine hs_sub (lv' := [(0, .ref x0), (1, .int x1), (2, .int (0 : Int32)), (3, .int (0 : Int32))]) [2, 3, 1, 0] rfl ?_
  exact c_X0_sizeOfComponent_b4 hb_FU _ _ _ _ _ _ h
def mX0_removeGarbage : hb_Y := (yX0_removeGarbage, cX0_removeGarbage, 1, (some .int), [], false)
set_option maxHeartbeats 4000000 in
set_option maxRecDepth 20000 in
theorem c_X0_removeGarbage {G : hb_G} {l : Launch} {z : Bool} {x0 : Nat} {σ : hb_M} {r : (Int32 × hb_M)} (h : f_X0_removeGarbage x0 σ = some r) : hb_Call G l z 4 0 0 mX0_removeGarbage [.ref x0] σ (.inl (some (.int r.1)), r.2) := by
  refine hb_met (by decide) (Nat.le_of_ble_eq_true rfl) ?_
  unfold f_X0_removeGarbage at h
  refine hs_aload_n dX0_removeGarbage_0 0 rfl ?_
  obtain ⟨r1, h1, h⟩ := hb_bind h
  obtain ⟨h1, nf1, hb1⟩ := hb_on_at h1
  refine hs_callVv (μ' := mX0_refresh) (mc := 0) (ms := 0) (rc := 0) (rs := 0) (As := []) (rest := []) (ci := 0) dX0_removeGarbage_1 lmX0_140 okX0_refresh rfl (by decide) rfl (Nat.le_of_ble_eq_true rfl) rfl hb1 (c_X0_refresh h1) ?_
  refine hs_aload_n dX0_removeGarbage_4 0 rfl ?_
  obtain ⟨r2, h2, h⟩ := hb_bind h
  refine hs_getR dX0_removeGarbage_5 lkX0_47 rfl h2 ?_
  refine hs_aload_n dX0_removeGarbage_8 0 rfl ?_
  obtain ⟨r3, h3, h⟩ := hb_bind h
  refine hs_getR dX0_removeGarbage_9 lkX0_12 rfl h3 ?_
  obtain ⟨r4, h4, h⟩ := hb_bind h
  refine hs_getL dX0_removeGarbage_12 lkX0_72 rfl h4 ?_
  obtain ⟨r5, h5, h⟩ := hb_bind h
  obtain ⟨h5, nf5, hb5⟩ := hb_on_at h5
  refine hs_callVi (μ' := mX4_removeAllBut) (mc := 0) (ms := 0) (rc := 0) (rs := 0) (As := [.long r4]) (rest := []) (ci := 4) dX0_removeGarbage_15 lmX0_143 okX4_removeAllBut rfl (by decide) rfl (Nat.le_of_ble_eq_true rfl) rfl hb5 (c_X4_removeAllBut h5) ?_
  obtain rfl := Option.some.inj h
  exact hs_ireturn dX0_removeGarbage_18 rfl (by rfl) (fun _ => rfl)
def mX0_children : hb_Y := (yX0_children, cX0_children, 6, (some .long), [], false)
theorem okX0_children : hb_okV mX0_children 1 := ⟨⟨hb_w 4 (by decide +kernel) (by decide +kernel), hb_w 1122 (by decide +kernel) (by decide +kernel), ⟨by decide +kernel, by decide +kernel, by decide +kernel⟩, by decide⟩, hb_w 1120 (by decide +kernel) (by decide +kernel), hb_w 1121 (by decide +kernel) (by decide +kernel)⟩
set_option maxHeartbeats 4000000 in
set_option maxRecDepth 20000 in
theorem c_X0_children_b60 {G : hb_G} {l : Launch} {z : Bool}  (k5 : Nat → Int32 → Int64 → Int32 → hb_M → Option (Int64 × hb_M)) (hk5 : ∀ (x0 : Nat) (x1 : Int32) (x2 : Int64) (x4 : Int32) (σ : hb_M) (r : (Int64 × hb_M)), k5 x0 x1 x2 x4 σ = some r → hb_T G l z mX0_children 1 0 0 5 [(0, .ref x0), (1, .int x1), (2, .long x2), (4, .int x4)] [] σ (.inl (some (.long r.1)), r.2))  {x0 : Nat} {x1 : Int32} {x4 : Int32} {s0 : Int64} {s1 : Int64} {σ : hb_M} {r : (Int64 × hb_M)} (h : f_X0_children_b60 k5 x0 x1 x4 s0 s1 σ = some r) : hb_T G l z mX0_children 1 0 0 60 [(0, .ref x0), (1, .int x1), (4, .int x4)] [.long s1, .long s0] σ (.inl (some (.long r.1)), r.2) := by
  unfold f_X0_children_b60 at h
  refine hs_lor dX0_children_60 ?_
  refine hs_lstore_n (lv' := [(2, .long (s0 ||| s1)), (0, .ref x0), (1, .int x1), (4, .int x4)]) dX0_children_61 (by decide) rfl ?_
  refine hs_iinc2 (k := (1 : Int32)) (lv' := [(4, .int (x4 + (1 : Int32))), (2, .long (s0 ||| s1)), (0, .ref x0), (1, .int x1)]) dX0_children_62 (by decide) 3 rfl (by decide) rfl ?_
  refine hs_goto (tgt := 5) dX0_children_65 (by decide) ?_
  refine hs_sub (lv' := [(0, .ref x0), (1, .int x1), (2, .long (s0 ||| s1)), (4, .int (x4 + (1 : Int32)))]) [2, 3, 1, 0] rfl ?_
  exact hk5 _ _ _ _ _ _ h
set_option maxHeartbeats 4000000 in
set_option maxRecDepth 20000 in
theorem c_X0_children_b43 {G : hb_G} {l : Launch} {z : Bool}  (k5 : Nat → Int32 → Int64 → Int32 → hb_M → Option (Int64 × hb_M)) (hk5 : ∀ (x0 : Nat) (x1 : Int32) (x2 : Int64) (x4 : Int32) (σ : hb_M) (r : (Int64 × hb_M)), k5 x0 x1 x2 x4 σ = some r → hb_T G l z mX0_children 1 0 0 5 [(0, .ref x0), (1, .int x1), (2, .long x2), (4, .int x4)] [] σ (.inl (some (.long r.1)), r.2))  {x0 : Nat} {x1 : Int32} {x2 : Int64} {x4 : Int32} {s0 : Int32} {σ : hb_M} {r : (Int64 × hb_M)} (h : f_X0_children_b43 k5 x0 x1 x2 x4 s0 σ = some r) : hb_T G l z mX0_children 1 0 0 43 [(0, .ref x0), (1, .int x1), (2, .long x2), (4, .int x4)] [.int s0] σ (.inl (some (.long r.1)), r.2) := by
  unfold f_X0_children_b43 at h
  refine hs_istore (lv' := [(5, .int s0), (0, .ref x0), (1, .int x1), (2, .long x2), (4, .int x4)]) dX0_children_43 (by decide) rfl ?_
  refine hs_lload_n dX0_children_45 3 rfl ?_
  refine hs_iload dX0_children_46 0 rfl ?_
  refine hs_if_eq (tgt := 59) dX0_children_48 (by decide) (fun hc1 => ?_) (fun hc1 => ?_)
  · rw [if_pos hc1] at h
    refine hs_lconst (v := (0 : Int64)) dX0_children_59 (by decide) ?_
    refine hs_sub (lv' := [(0, .ref x0), (1, .int x1), (4, .int x4)]) [1, 2, 4] rfl ?_
    exact c_X0_children_b60 k5 hk5 h
  · rw [if_neg hc1] at h
    refine hs_iload dX0_children_51 4 rfl ?_
    obtain ⟨r2, h2, h⟩ := hb_bind h
    refine hs_callSNl (μ' := mX8_member) (mc := 0) (ms := 0) (rc := 0) (rs := 0) (As := [.int x4]) (rest := [.long x2]) dX0_children_53 lnX0_105 okX8_member rfl (by decide) rfl (Nat.le_of_ble_eq_true rfl) (c_X8_member h2) ?_
    refine hs_goto (tgt := 60) dX0_children_56 (by decide) ?_
    refine hs_sub (lv' := [(0, .ref x0), (1, .int x1), (4, .int x4)]) [1, 2, 4] rfl ?_
    exact c_X0_children_b60 k5 hk5 h
set_option maxHeartbeats 4000000 in
set_option maxRecDepth 20000 in
theorem c_X0_children_b42 {G : hb_G} {l : Launch} {z : Bool}  (k5 : Nat → Int32 → Int64 → Int32 → hb_M → Option (Int64 × hb_M)) (hk5 : ∀ (x0 : Nat) (x1 : Int32) (x2 : Int64) (x4 : Int32) (σ : hb_M) (r : (Int64 × hb_M)), k5 x0 x1 x2 x4 σ = some r → hb_T G l z mX0_children 1 0 0 5 [(0, .ref x0), (1, .int x1), (2, .long x2), (4, .int x4)] [] σ (.inl (some (.long r.1)), r.2))  {x0 : Nat} {x1 : Int32} {x2 : Int64} {x4 : Int32} {σ : hb_M} {r : (Int64 × hb_M)} (h : f_X0_children_b42 k5 x0 x1 x2 x4 σ = some r) : hb_T G l z mX0_children 1 0 0 42 [(0, .ref x0), (1, .int x1), (2, .long x2), (4, .int x4)] [] σ (.inl (some (.long r.1)), r.2) := by
  unfold f_X0_children_b42 at h
  refine hs_iconst (v := (0 : Int32)) dX0_children_42 (by decide) ?_
  refine hs_sub (lv' := [(0, .ref x0), (1, .int x1), (2, .long x2), (4, .int x4)]) [0, 1, 2, 3] rfl ?_
  exact c_X0_children_b43 k5 hk5 h
set_option maxHeartbeats 4000000 in
set_option maxRecDepth 20000 in
theorem c_X0_children_b5 {G : hb_G} {l : Launch} {z : Bool} : ∀ (n : Nat) (x0 : Nat) (x1 : Int32) (x2 : Int64) (x4 : Int32) (σ : hb_M) (r : (Int64 × hb_M)), f_X0_children_b5 n x0 x1 x2 x4 σ = some r → hb_T G l z mX0_children 1 0 0 5 [(0, .ref x0), (1, .int x1), (2, .long x2), (4, .int x4)] [] σ (.inl (some (.long r.1)), r.2) := by
  intro n
  induction n with
  | zero =>
    intro x0 x1 x2 x4 σ r h
    cases h
  | succ n ih =>
    intro x0 x1 x2 x4 σ r h
    rw [f_X0_children_b5] at h
    refine hs_iload dX0_children_5 3 rfl ?_
    refine hs_bipush (v := (40 : Int32)) dX0_children_7 (by decide) ?_
    refine hs_icmp_ge (tgt := 68) dX0_children_9 (by decide) (fun hc1 => ?_) (fun hc1 => ?_)
    · rw [if_pos hc1] at h
      refine hs_lload_n dX0_children_68 2 rfl ?_
      obtain rfl := Option.some.inj h
      exact hs_lreturn dX0_children_69 rfl (fun _ => rfl)
    · rw [if_neg hc1] at h
      refine hs_aload_n dX0_children_12 0 rfl ?_
      obtain ⟨r2, h2, h⟩ := hb_bind h
      refine hs_getR dX0_children_13 lkX0_12 rfl h2 ?_
      obtain ⟨r3, h3, h⟩ := hb_bind h
      refine hs_getL dX0_children_16 lkX0_72 rfl h3 ?_
      refine hs_iload dX0_children_19 3 rfl ?_
      obtain ⟨r4, h4, h⟩ := hb_bind h
      refine hs_callSNi (μ' := mX8_contains) (mc := 0) (ms := 0) (rc := 0) (rs := 0) (As := [.long r3, .int x4]) (rest := []) dX0_children_21 lnX0_101 okX8_contains rfl (by decide) rfl (Nat.le_of_ble_eq_true rfl) (c_X8_contains h4) ?_
      refine hs_if_eq (tgt := 42) dX0_children_24 (by decide) (fun hc5 => ?_) (fun hc5 => ?_)
      · rw [if_pos hc5] at h
        refine hs_sub (lv' := [(0, .ref x0), (1, .int x1), (2, .long x2), (4, .int x4)]) [0, 1, 2, 3] rfl ?_
        exact c_X0_children_b42 (f_X0_children_b5 n) ih h
      · rw [if_neg hc5] at h
        refine hs_aload_n dX0_children_27 0 rfl ?_
        obtain ⟨r6, h6, h⟩ := hb_bind h
        refine hs_getR dX0_children_28 lkX0_29 rfl h6 ?_
        refine hs_iload dX0_children_31 3 rfl ?_
        obtain ⟨r7, h7, h⟩ := hb_bind h
        refine hs_iald dX0_children_33 h7 ?_
        refine hs_iload_n dX0_children_34 1 rfl ?_
        refine hs_icmp_ne (tgt := 42) dX0_children_35 (by decide) (fun hc8 => ?_) (fun hc8 => ?_)
        · rw [if_neg hc8] at h
          refine hs_sub (lv' := [(0, .ref x0), (1, .int x1), (2, .long x2), (4, .int x4)]) [0, 1, 2, 3] rfl ?_
          exact c_X0_children_b42 (f_X0_children_b5 n) ih h
        · rw [if_pos hc8] at h
          refine hs_iconst (v := (1 : Int32)) dX0_children_38 (by decide) ?_
          refine hs_goto (tgt := 43) dX0_children_39 (by decide) ?_
          refine hs_sub (lv' := [(0, .ref x0), (1, .int x1), (2, .long x2), (4, .int x4)]) [0, 1, 2, 3] rfl ?_
          exact c_X0_children_b43 (f_X0_children_b5 n) ih h
set_option maxHeartbeats 4000000 in
set_option maxRecDepth 20000 in
theorem c_X0_children {G : hb_G} {l : Launch} {z : Bool} {x0 : Nat} {x1 : Int32} {σ : hb_M} {r : (Int64 × hb_M)} (h : f_X0_children x0 x1 σ = some r) : hb_Call G l z 1 0 0 mX0_children [.ref x0, .int x1] σ (.inl (some (.long r.1)), r.2) := by
  refine hb_met (by decide) (Nat.le_of_ble_eq_true rfl) ?_
  unfold f_X0_children at h
  refine hs_lconst (v := (0 : Int64)) dX0_children_0 (by decide) ?_
  refine hs_lstore_n (lv' := [(2, .long (0 : Int64)), (0, .ref x0), (1, .int x1)]) dX0_children_1 (by decide) rfl ?_
  refine hs_iconst (v := (0 : Int32)) dX0_children_2 (by decide) ?_
  refine hs_istore (lv' := [(4, .int (0 : Int32)), (2, .long (0 : Int64)), (0, .ref x0), (1, .int x1)]) dX0_children_3 (by decide) rfl ?_
  refine hs_sub (lv' := [(0, .ref x0), (1, .int x1), (2, .long (0 : Int64)), (4, .int (0 : Int32))]) [2, 3, 1, 0] rfl ?_
  exact c_X0_children_b5 hb_FU _ _ _ _ _ _ h
def mX0_lostByTrial : hb_Y := (yX0_lostByTrial, cX0_lostByTrial, 1, (some .int), [], false)
theorem okX0_lostByTrial : hb_okV mX0_lostByTrial 0 := ⟨⟨hb_w 4 (by decide +kernel) (by decide +kernel), hb_w 663 (by decide +kernel) (by decide +kernel), ⟨by decide +kernel, by decide +kernel, by decide +kernel⟩, by decide⟩, hb_w 662 (by decide +kernel) (by decide +kernel), hb_wp (q := (yX0_lostByTrial, 13)) 17 (by decide +kernel) (by decide +kernel)⟩
set_option maxHeartbeats 4000000 in
set_option maxRecDepth 20000 in
theorem c_X0_lostByTrial {G : hb_G} {l : Launch} {z : Bool} {x0 : Nat} {σ : hb_M} {r : (Int32 × hb_M)} (h : f_X0_lostByTrial x0 σ = some r) : hb_Call G l z 2 0 0 mX0_lostByTrial [.ref x0] σ (.inl (some (.int r.1)), r.2) := by
  refine hb_met (by decide) (Nat.le_of_ble_eq_true rfl) ?_
  unfold f_X0_lostByTrial at h
  refine hs_aload_n dX0_lostByTrial_0 0 rfl ?_
  obtain ⟨r1, h1, h⟩ := hb_bind h
  refine hs_getR dX0_lostByTrial_1 lkX0_47 rfl h1 ?_
  refine hs_aload_n dX0_lostByTrial_4 0 rfl ?_
  obtain ⟨r2, h2, h⟩ := hb_bind h
  refine hs_getR dX0_lostByTrial_5 lkX0_12 rfl h2 ?_
  obtain ⟨r3, h3, h⟩ := hb_bind h
  refine hs_getL dX0_lostByTrial_8 lkX0_72 rfl h3 ?_
  refine hs_aload_n dX0_lostByTrial_11 0 rfl ?_
  obtain ⟨r4, h4, h⟩ := hb_bind h
  refine hs_getR dX0_lostByTrial_12 lkX0_18 rfl h4 ?_
  obtain ⟨r5, h5, h⟩ := hb_bind h
  refine hs_getL dX0_lostByTrial_15 lkX0_72 rfl h5 ?_
  refine hs_ldc2 (v := (-1 : Int64)) dX0_lostByTrial_18 wd_664 ?_
  refine hs_lxor dX0_lostByTrial_21 ?_
  refine hs_land dX0_lostByTrial_22 ?_
  obtain ⟨r6, h6, h⟩ := hb_bind h
  obtain ⟨h6, nf6, hb6⟩ := hb_on_at h6
  refine hs_callVi (μ' := mX4_sizeOfAll) (mc := 0) (ms := 0) (rc := 0) (rs := 0) (As := [.long (r3 &&& (r5 ^^^ (-1 : Int64)))]) (rest := []) (ci := 4) dX0_lostByTrial_23 lmX0_76 okX4_sizeOfAll rfl (by decide) rfl (Nat.le_of_ble_eq_true rfl) rfl hb6 (c_X4_sizeOfAll h6) ?_
  obtain rfl := Option.some.inj h
  exact hs_ireturn dX0_lostByTrial_26 rfl (by rfl) (fun _ => rfl)
def mX0_lostWithoutSlot : hb_Y := (yX0_lostWithoutSlot, cX0_lostWithoutSlot, 3, (some .int), [], false)
set_option maxHeartbeats 4000000 in
set_option maxRecDepth 20000 in
theorem c_X0_lostWithoutSlot {G : hb_G} {l : Launch} {z : Bool} {x0 : Nat} {x1 : Int32} {x2 : Int32} {σ : hb_M} {r : (Int32 × hb_M)} (h : f_X0_lostWithoutSlot x0 x1 x2 σ = some r) : hb_Call G l z 3 0 0 mX0_lostWithoutSlot [.ref x0, .int x1, .int x2] σ (.inl (some (.int r.1)), r.2) := by
  refine hb_met (by decide) (Nat.le_of_ble_eq_true rfl) ?_
  unfold f_X0_lostWithoutSlot at h
  refine hs_aload_n dX0_lostWithoutSlot_0 0 rfl ?_
  obtain ⟨r1, h1, h⟩ := hb_bind h
  refine hs_getR dX0_lostWithoutSlot_1 lkX0_18 rfl h1 ?_
  refine hs_aload_n dX0_lostWithoutSlot_4 0 rfl ?_
  obtain ⟨r2, h2, h⟩ := hb_bind h
  refine hs_getR dX0_lostWithoutSlot_5 lkX0_21 rfl h2 ?_
  refine hs_aload_n dX0_lostWithoutSlot_8 0 rfl ?_
  obtain ⟨r3, h3, h⟩ := hb_bind h
  refine hs_getR dX0_lostWithoutSlot_9 lkX0_47 rfl h3 ?_
  obtain ⟨r4, h4, h⟩ := hb_bind h
  obtain ⟨h4, nf4, hb4⟩ := hb_on_at h4
  refine hs_callVl (μ' := mX4_allRoots) (mc := 0) (ms := 0) (rc := 0) (rs := 0) (As := []) (rest := [.ref r2, .ref r1]) (ci := 4) dX0_lostWithoutSlot_12 lmX0_64 okX4_allRoots rfl (by decide) rfl (Nat.le_of_ble_eq_true rfl) rfl hb4 (c_X4_allRoots h4) ?_
  refine hs_lconst (v := (0 : Int64)) dX0_lostWithoutSlot_15 (by decide) ?_
  refine hs_iload_n dX0_lostWithoutSlot_16 1 rfl ?_
  refine hs_bipush (v := (8 : Int32)) dX0_lostWithoutSlot_17 (by decide) ?_
  refine hs_imul dX0_lostWithoutSlot_19 ?_
  refine hs_iload_n dX0_lostWithoutSlot_20 2 rfl ?_
  refine hs_iadd dX0_lostWithoutSlot_21 ?_
  obtain ⟨r5, h5, h⟩ := hb_bind h
  obtain ⟨h5, nf5, hb5⟩ := hb_on_at h5
  refine hs_callVv (μ' := mX6_run) (mc := 0) (ms := 0) (rc := 0) (rs := 0) (As := [.ref r2, .long r4.1, .long (0 : Int64), .int ((x1 * (8 : Int32)) + x2)]) (rest := []) (ci := 6) dX0_lostWithoutSlot_22 lmX0_68 okX6_run rfl (by decide) rfl (Nat.le_of_ble_eq_true rfl) rfl hb5 (c_X6_run h5) ?_
  refine hs_aload_n dX0_lostWithoutSlot_25 0 rfl ?_
  obtain ⟨r6, h6, h⟩ := hb_bind h
  obtain ⟨h6, nf6, hb6⟩ := hb_on_at h6
  refine hs_callVi (μ' := mX0_lostByTrial) (mc := 0) (ms := 0) (rc := 0) (rs := 0) (As := []) (rest := []) (ci := 0) dX0_lostWithoutSlot_26 lmX0_146 okX0_lostByTrial rfl (by decide) rfl (Nat.le_of_ble_eq_true rfl) rfl hb6 (c_X0_lostByTrial h6) ?_
  obtain rfl := Option.some.inj h
  exact hs_ireturn dX0_lostWithoutSlot_29 rfl (by rfl) (fun _ => rfl)
def mX0_lostWithoutRoot : hb_Y := (yX0_lostWithoutRoot, cX0_lostWithoutRoot, 2, (some .int), [], false)
set_option maxHeartbeats 4000000 in
set_option maxRecDepth 20000 in
theorem c_X0_lostWithoutRoot {G : hb_G} {l : Launch} {z : Bool} {x0 : Nat} {x1 : Int32} {σ : hb_M} {r : (Int32 × hb_M)} (h : f_X0_lostWithoutRoot x0 x1 σ = some r) : hb_Call G l z 3 0 0 mX0_lostWithoutRoot [.ref x0, .int x1] σ (.inl (some (.int r.1)), r.2) := by
  refine hb_met (by decide) (Nat.le_of_ble_eq_true rfl) ?_
  unfold f_X0_lostWithoutRoot at h
  refine hs_aload_n dX0_lostWithoutRoot_0 0 rfl ?_
  obtain ⟨r1, h1, h⟩ := hb_bind h
  refine hs_getR dX0_lostWithoutRoot_1 lkX0_18 rfl h1 ?_
  refine hs_aload_n dX0_lostWithoutRoot_4 0 rfl ?_
  obtain ⟨r2, h2, h⟩ := hb_bind h
  refine hs_getR dX0_lostWithoutRoot_5 lkX0_21 rfl h2 ?_
  refine hs_aload_n dX0_lostWithoutRoot_8 0 rfl ?_
  obtain ⟨r3, h3, h⟩ := hb_bind h
  refine hs_getR dX0_lostWithoutRoot_9 lkX0_47 rfl h3 ?_
  obtain ⟨r4, h4, h⟩ := hb_bind h
  obtain ⟨h4, nf4, hb4⟩ := hb_on_at h4
  refine hs_callVl (μ' := mX4_allRoots) (mc := 0) (ms := 0) (rc := 0) (rs := 0) (As := []) (rest := [.ref r2, .ref r1]) (ci := 4) dX0_lostWithoutRoot_12 lmX0_64 okX4_allRoots rfl (by decide) rfl (Nat.le_of_ble_eq_true rfl) rfl hb4 (c_X4_allRoots h4) ?_
  refine hs_iload_n dX0_lostWithoutRoot_15 1 rfl ?_
  obtain ⟨r5, h5, h⟩ := hb_bind h
  refine hs_callSNl (μ' := mX8_member) (mc := 0) (ms := 0) (rc := 0) (rs := 0) (As := [.int x1]) (rest := [.long r4.1, .ref r2, .ref r1]) dX0_lostWithoutRoot_16 lnX0_105 okX8_member rfl (by decide) rfl (Nat.le_of_ble_eq_true rfl) (c_X8_member h5) ?_
  refine hs_ldc2 (v := (-1 : Int64)) dX0_lostWithoutRoot_19 wd_664 ?_
  refine hs_lxor dX0_lostWithoutRoot_22 ?_
  refine hs_land dX0_lostWithoutRoot_23 ?_
  refine hs_lconst (v := (0 : Int64)) dX0_lostWithoutRoot_24 (by decide) ?_
  refine hs_iconst (v := (-1 : Int32)) dX0_lostWithoutRoot_25 (by decide) ?_
  obtain ⟨r6, h6, h⟩ := hb_bind h
  obtain ⟨h6, nf6, hb6⟩ := hb_on_at h6
  refine hs_callVv (μ' := mX6_run) (mc := 0) (ms := 0) (rc := 0) (rs := 0) (As := [.ref r2, .long (r4.1 &&& (r5.1 ^^^ (-1 : Int64))), .long (0 : Int64), .int (-1 : Int32)]) (rest := []) (ci := 6) dX0_lostWithoutRoot_26 lmX0_68 okX6_run rfl (by decide) rfl (Nat.le_of_ble_eq_true rfl) rfl hb6 (c_X6_run h6) ?_
  refine hs_aload_n dX0_lostWithoutRoot_29 0 rfl ?_
  obtain ⟨r7, h7, h⟩ := hb_bind h
  obtain ⟨h7, nf7, hb7⟩ := hb_on_at h7
  refine hs_callVi (μ' := mX0_lostByTrial) (mc := 0) (ms := 0) (rc := 0) (rs := 0) (As := []) (rest := []) (ci := 0) dX0_lostWithoutRoot_30 lmX0_146 okX0_lostByTrial rfl (by decide) rfl (Nat.le_of_ble_eq_true rfl) rfl hb7 (c_X0_lostByTrial h7) ?_
  obtain rfl := Option.some.inj h
  exact hs_ireturn dX0_lostWithoutRoot_33 rfl (by rfl) (fun _ => rfl)
def mX0_lostWithout : hb_Y := (yX0_lostWithout, cX0_lostWithout, 3, (some .int), [], false)
set_option maxHeartbeats 4000000 in
set_option maxRecDepth 20000 in
theorem c_X0_lostWithout {G : hb_G} {l : Launch} {z : Bool} {x0 : Nat} {x1 : Int64} {σ : hb_M} {r : (Int32 × hb_M)} (h : f_X0_lostWithout x0 x1 σ = some r) : hb_Call G l z 3 0 0 mX0_lostWithout [.ref x0, .long x1] σ (.inl (some (.int r.1)), r.2) := by
  refine hb_met (by decide) (Nat.le_of_ble_eq_true rfl) ?_
  unfold f_X0_lostWithout at h
  refine hs_aload_n dX0_lostWithout_0 0 rfl ?_
  obtain ⟨r1, h1, h⟩ := hb_bind h
  refine hs_getR dX0_lostWithout_1 lkX0_18 rfl h1 ?_
  refine hs_aload_n dX0_lostWithout_4 0 rfl ?_
  obtain ⟨r2, h2, h⟩ := hb_bind h
  refine hs_getR dX0_lostWithout_5 lkX0_21 rfl h2 ?_
  refine hs_aload_n dX0_lostWithout_8 0 rfl ?_
  obtain ⟨r3, h3, h⟩ := hb_bind h
  refine hs_getR dX0_lostWithout_9 lkX0_47 rfl h3 ?_
  obtain ⟨r4, h4, h⟩ := hb_bind h
  obtain ⟨h4, nf4, hb4⟩ := hb_on_at h4
  refine hs_callVl (μ' := mX4_allRoots) (mc := 0) (ms := 0) (rc := 0) (rs := 0) (As := []) (rest := [.ref r2, .ref r1]) (ci := 4) dX0_lostWithout_12 lmX0_64 okX4_allRoots rfl (by decide) rfl (Nat.le_of_ble_eq_true rfl) rfl hb4 (c_X4_allRoots h4) ?_
  refine hs_lload_n dX0_lostWithout_15 1 rfl ?_
  refine hs_iconst (v := (-1 : Int32)) dX0_lostWithout_16 (by decide) ?_
  obtain ⟨r5, h5, h⟩ := hb_bind h
  obtain ⟨h5, nf5, hb5⟩ := hb_on_at h5
  refine hs_callVv (μ' := mX6_run) (mc := 0) (ms := 0) (rc := 0) (rs := 0) (As := [.ref r2, .long r4.1, .long x1, .int (-1 : Int32)]) (rest := []) (ci := 6) dX0_lostWithout_17 lmX0_68 okX6_run rfl (by decide) rfl (Nat.le_of_ble_eq_true rfl) rfl hb5 (c_X6_run h5) ?_
  refine hs_aload_n dX0_lostWithout_20 0 rfl ?_
  obtain ⟨r6, h6, h⟩ := hb_bind h
  obtain ⟨h6, nf6, hb6⟩ := hb_on_at h6
  refine hs_callVi (μ' := mX0_lostByTrial) (mc := 0) (ms := 0) (rc := 0) (rs := 0) (As := []) (rest := []) (ci := 0) dX0_lostWithout_21 lmX0_146 okX0_lostByTrial rfl (by decide) rfl (Nat.le_of_ble_eq_true rfl) rfl hb6 (c_X0_lostByTrial h6) ?_
  obtain rfl := Option.some.inj h
  exact hs_ireturn dX0_lostWithout_24 rfl (by rfl) (fun _ => rfl)
def mX0_retainingAtLeast : hb_Y := (yX0_retainingAtLeast, cX0_retainingAtLeast, 9, (some .long), [], false)
theorem okX0_retainingAtLeast : hb_okV mX0_retainingAtLeast 3 := ⟨⟨hb_w 4 (by decide +kernel) (by decide +kernel), hb_w 1225 (by decide +kernel) (by decide +kernel), ⟨by decide +kernel, by decide +kernel, by decide +kernel⟩, by decide⟩, hb_w 1224 (by decide +kernel) (by decide +kernel), hb_wp (q := (yX0_retainingAtLeast, 13)) 30 (by decide +kernel) (by decide +kernel)⟩
set_option maxHeartbeats 4000000 in
set_option maxRecDepth 20000 in
theorem c_X0_retainingAtLeast_b62 {G : hb_G} {l : Launch} {z : Bool}  (k6 : Nat → Int64 → Int32 → Int32 → Int64 → Int32 → hb_M → Option (Int64 × hb_M)) (hk6 : ∀ (x0 : Nat) (x1 : Int64) (x3 : Int32) (x4 : Int32) (x5 : Int64) (x7 : Int32) (σ : hb_M) (r : (Int64 × hb_M)), k6 x0 x1 x3 x4 x5 x7 σ = some r → hb_T G l z mX0_retainingAtLeast 1 0 0 6 [(0, .ref x0), (1, .long x1), (3, .int x3), (4, .int x4), (5, .long x5), (7, .int x7)] [] σ (.inl (some (.long r.1)), r.2))  {x0 : Nat} {x1 : Int64} {x3 : Int32} {x4 : Int32} {x7 : Int32} {s0 : Int64} {s1 : Int64} {σ : hb_M} {r : (Int64 × hb_M)} (h : f_X0_retainingAtLeast_b62 k6 x0 x1 x3 x4 x7 s0 s1 σ = some r) : hb_T G l z mX0_retainingAtLeast 1 0 0 62 [(0, .ref x0), (1, .long x1), (3, .int x3), (4, .int x4), (7, .int x7)] [.long s1, .long s0] σ (.inl (some (.long r.1)), r.2) := by
  unfold f_X0_retainingAtLeast_b62 at h
  refine hs_lor dX0_retainingAtLeast_62 ?_
  refine hs_lstore (lv' := [(5, .long (s0 ||| s1)), (0, .ref x0), (1, .long x1), (3, .int x3), (4, .int x4), (7, .int x7)]) dX0_retainingAtLeast_63 (by decide) rfl ?_
  refine hs_iinc2 (k := (1 : Int32)) (lv' := [(7, .int (x7 + (1 : Int32))), (5, .long (s0 ||| s1)), (0, .ref x0), (1, .long x1), (3, .int x3), (4, .int x4)]) dX0_retainingAtLeast_65 (by decide) 5 rfl (by decide) rfl ?_
  refine hs_goto (tgt := 6) dX0_retainingAtLeast_68 (by decide) ?_
  refine hs_sub (lv' := [(0, .ref x0), (1, .long x1), (3, .int x3), (4, .int x4), (5, .long (s0 ||| s1)), (7, .int (x7 + (1 : Int32)))]) [2, 3, 4, 5, 1, 0] rfl ?_
  exact hk6 _ _ _ _ _ _ _ _ h
set_option maxHeartbeats 4000000 in
set_option maxRecDepth 20000 in
theorem c_X0_retainingAtLeast_b44 {G : hb_G} {l : Launch} {z : Bool}  (k6 : Nat → Int64 → Int32 → Int32 → Int64 → Int32 → hb_M → Option (Int64 × hb_M)) (hk6 : ∀ (x0 : Nat) (x1 : Int64) (x3 : Int32) (x4 : Int32) (x5 : Int64) (x7 : Int32) (σ : hb_M) (r : (Int64 × hb_M)), k6 x0 x1 x3 x4 x5 x7 σ = some r → hb_T G l z mX0_retainingAtLeast 1 0 0 6 [(0, .ref x0), (1, .long x1), (3, .int x3), (4, .int x4), (5, .long x5), (7, .int x7)] [] σ (.inl (some (.long r.1)), r.2))  {x0 : Nat} {x1 : Int64} {x3 : Int32} {x4 : Int32} {x5 : Int64} {x7 : Int32} {s0 : Int32} {σ : hb_M} {r : (Int64 × hb_M)} (h : f_X0_retainingAtLeast_b44 k6 x0 x1 x3 x4 x5 x7 s0 σ = some r) : hb_T G l z mX0_retainingAtLeast 1 0 0 44 [(0, .ref x0), (1, .long x1), (3, .int x3), (4, .int x4), (5, .long x5), (7, .int x7)] [.int s0] σ (.inl (some (.long r.1)), r.2) := by
  unfold f_X0_retainingAtLeast_b44 at h
  refine hs_istore (lv' := [(8, .int s0), (0, .ref x0), (1, .long x1), (3, .int x3), (4, .int x4), (5, .long x5), (7, .int x7)]) dX0_retainingAtLeast_44 (by decide) rfl ?_
  refine hs_lload dX0_retainingAtLeast_46 5 rfl ?_
  refine hs_iload dX0_retainingAtLeast_48 0 rfl ?_
  refine hs_if_eq (tgt := 61) dX0_retainingAtLeast_50 (by decide) (fun hc1 => ?_) (fun hc1 => ?_)
  · rw [if_pos hc1] at h
    refine hs_lconst (v := (0 : Int64)) dX0_retainingAtLeast_61 (by decide) ?_
    refine hs_sub (lv' := [(0, .ref x0), (1, .long x1), (3, .int x3), (4, .int x4), (7, .int x7)]) [1, 2, 3, 4, 6] rfl ?_
    exact c_X0_retainingAtLeast_b62 k6 hk6 h
  · rw [if_neg hc1] at h
    refine hs_iload dX0_retainingAtLeast_53 6 rfl ?_
    obtain ⟨r2, h2, h⟩ := hb_bind h
    refine hs_callSNl (μ' := mX8_member) (mc := 0) (ms := 0) (rc := 0) (rs := 0) (As := [.int x7]) (rest := [.long x5]) dX0_retainingAtLeast_55 lnX0_105 okX8_member rfl (by decide) rfl (Nat.le_of_ble_eq_true rfl) (c_X8_member h2) ?_
    refine hs_goto (tgt := 62) dX0_retainingAtLeast_58 (by decide) ?_
    refine hs_sub (lv' := [(0, .ref x0), (1, .long x1), (3, .int x3), (4, .int x4), (7, .int x7)]) [1, 2, 3, 4, 6] rfl ?_
    exact c_X0_retainingAtLeast_b62 k6 hk6 h
set_option maxHeartbeats 4000000 in
set_option maxRecDepth 20000 in
theorem c_X0_retainingAtLeast_b43 {G : hb_G} {l : Launch} {z : Bool}  (k6 : Nat → Int64 → Int32 → Int32 → Int64 → Int32 → hb_M → Option (Int64 × hb_M)) (hk6 : ∀ (x0 : Nat) (x1 : Int64) (x3 : Int32) (x4 : Int32) (x5 : Int64) (x7 : Int32) (σ : hb_M) (r : (Int64 × hb_M)), k6 x0 x1 x3 x4 x5 x7 σ = some r → hb_T G l z mX0_retainingAtLeast 1 0 0 6 [(0, .ref x0), (1, .long x1), (3, .int x3), (4, .int x4), (5, .long x5), (7, .int x7)] [] σ (.inl (some (.long r.1)), r.2))  {x0 : Nat} {x1 : Int64} {x3 : Int32} {x4 : Int32} {x5 : Int64} {x7 : Int32} {σ : hb_M} {r : (Int64 × hb_M)} (h : f_X0_retainingAtLeast_b43 k6 x0 x1 x3 x4 x5 x7 σ = some r) : hb_T G l z mX0_retainingAtLeast 1 0 0 43 [(0, .ref x0), (1, .long x1), (3, .int x3), (4, .int x4), (5, .long x5), (7, .int x7)] [] σ (.inl (some (.long r.1)), r.2) := by
  unfold f_X0_retainingAtLeast_b43 at h
  refine hs_iconst (v := (0 : Int32)) dX0_retainingAtLeast_43 (by decide) ?_
  refine hs_sub (lv' := [(0, .ref x0), (1, .long x1), (3, .int x3), (4, .int x4), (5, .long x5), (7, .int x7)]) [0, 1, 2, 3, 4, 5] rfl ?_
  exact c_X0_retainingAtLeast_b44 k6 hk6 h
set_option maxHeartbeats 4000000 in
set_option maxRecDepth 20000 in
theorem c_X0_retainingAtLeast_b6 {G : hb_G} {l : Launch} {z : Bool} : ∀ (n : Nat) (x0 : Nat) (x1 : Int64) (x3 : Int32) (x4 : Int32) (x5 : Int64) (x7 : Int32) (σ : hb_M) (r : (Int64 × hb_M)), f_X0_retainingAtLeast_b6 n x0 x1 x3 x4 x5 x7 σ = some r → hb_T G l z mX0_retainingAtLeast 1 0 0 6 [(0, .ref x0), (1, .long x1), (3, .int x3), (4, .int x4), (5, .long x5), (7, .int x7)] [] σ (.inl (some (.long r.1)), r.2) := by
  intro n
  induction n with
  | zero =>
    intro x0 x1 x3 x4 x5 x7 σ r h
    cases h
  | succ n ih =>
    intro x0 x1 x3 x4 x5 x7 σ r h
    rw [f_X0_retainingAtLeast_b6] at h
    refine hs_iload dX0_retainingAtLeast_6 5 rfl ?_
    refine hs_bipush (v := (40 : Int32)) dX0_retainingAtLeast_8 (by decide) ?_
    refine hs_icmp_ge (tgt := 71) dX0_retainingAtLeast_10 (by decide) (fun hc1 => ?_) (fun hc1 => ?_)
    · rw [if_pos hc1] at h
      refine hs_lload dX0_retainingAtLeast_71 4 rfl ?_
      obtain rfl := Option.some.inj h
      exact hs_lreturn dX0_retainingAtLeast_73 rfl (fun _ => rfl)
    · rw [if_neg hc1] at h
      refine hs_lload_n dX0_retainingAtLeast_13 1 rfl ?_
      refine hs_iload dX0_retainingAtLeast_14 5 rfl ?_
      obtain ⟨r2, h2, h⟩ := hb_bind h
      refine hs_callSNi (μ' := mX8_contains) (mc := 0) (ms := 0) (rc := 0) (rs := 0) (As := [.long x1, .int x7]) (rest := []) dX0_retainingAtLeast_16 lnX0_101 okX8_contains rfl (by decide) rfl (Nat.le_of_ble_eq_true rfl) (c_X8_contains h2) ?_
      refine hs_if_eq (tgt := 43) dX0_retainingAtLeast_19 (by decide) (fun hc3 => ?_) (fun hc3 => ?_)
      · rw [if_pos hc3] at h
        refine hs_sub (lv' := [(0, .ref x0), (1, .long x1), (3, .int x3), (4, .int x4), (5, .long x5), (7, .int x7)]) [0, 1, 2, 3, 4, 5] rfl ?_
        exact c_X0_retainingAtLeast_b43 (f_X0_retainingAtLeast_b6 n) ih h
      · rw [if_neg hc3] at h
        refine hs_aload_n dX0_retainingAtLeast_22 0 rfl ?_
        obtain ⟨r4, h4, h⟩ := hb_bind h
        refine hs_getR dX0_retainingAtLeast_23 lkX0_32 rfl h4 ?_
        refine hs_iload dX0_retainingAtLeast_26 5 rfl ?_
        obtain ⟨r5, h5, h⟩ := hb_bind h
        refine hs_iald dX0_retainingAtLeast_28 h5 ?_
        refine hs_bipush (v := (100 : Int32)) dX0_retainingAtLeast_29 (by decide) ?_
        refine hs_imul dX0_retainingAtLeast_31 ?_
        refine hs_iload_n dX0_retainingAtLeast_32 2 rfl ?_
        refine hs_iload dX0_retainingAtLeast_33 3 rfl ?_
        refine hs_imul dX0_retainingAtLeast_35 ?_
        refine hs_icmp_lt (tgt := 43) dX0_retainingAtLeast_36 (by decide) (fun hc6 => ?_) (fun hc6 => ?_)
        · rw [if_pos hc6] at h
          refine hs_sub (lv' := [(0, .ref x0), (1, .long x1), (3, .int x3), (4, .int x4), (5, .long x5), (7, .int x7)]) [0, 1, 2, 3, 4, 5] rfl ?_
          exact c_X0_retainingAtLeast_b43 (f_X0_retainingAtLeast_b6 n) ih h
        · rw [if_neg hc6] at h
          refine hs_iconst (v := (1 : Int32)) dX0_retainingAtLeast_39 (by decide) ?_
          refine hs_goto (tgt := 44) dX0_retainingAtLeast_40 (by decide) ?_
          refine hs_sub (lv' := [(0, .ref x0), (1, .long x1), (3, .int x3), (4, .int x4), (5, .long x5), (7, .int x7)]) [0, 1, 2, 3, 4, 5] rfl ?_
          exact c_X0_retainingAtLeast_b44 (f_X0_retainingAtLeast_b6 n) ih h
set_option maxHeartbeats 4000000 in
set_option maxRecDepth 20000 in
theorem c_X0_retainingAtLeast {G : hb_G} {l : Launch} {z : Bool} {x0 : Nat} {x1 : Int64} {x3 : Int32} {x4 : Int32} {σ : hb_M} {r : (Int64 × hb_M)} (h : f_X0_retainingAtLeast x0 x1 x3 x4 σ = some r) : hb_Call G l z 1 0 0 mX0_retainingAtLeast [.ref x0, .long x1, .int x3, .int x4] σ (.inl (some (.long r.1)), r.2) := by
  refine hb_met (by decide) (Nat.le_of_ble_eq_true rfl) ?_
  unfold f_X0_retainingAtLeast at h
  refine hs_lconst (v := (0 : Int64)) dX0_retainingAtLeast_0 (by decide) ?_
  refine hs_lstore (lv' := [(5, .long (0 : Int64)), (0, .ref x0), (1, .long x1), (3, .int x3), (4, .int x4)]) dX0_retainingAtLeast_1 (by decide) rfl ?_
  refine hs_iconst (v := (0 : Int32)) dX0_retainingAtLeast_3 (by decide) ?_
  refine hs_istore (lv' := [(7, .int (0 : Int32)), (5, .long (0 : Int64)), (0, .ref x0), (1, .long x1), (3, .int x3), (4, .int x4)]) dX0_retainingAtLeast_4 (by decide) rfl ?_
  refine hs_sub (lv' := [(0, .ref x0), (1, .long x1), (3, .int x3), (4, .int x4), (5, .long (0 : Int64)), (7, .int (0 : Int32))]) [2, 3, 4, 5, 1, 0] rfl ?_
  exact c_X0_retainingAtLeast_b6 hb_FU _ _ _ _ _ _ _ _ h
def mX0_suspects : hb_Y := (yX0_suspects, cX0_suspects, 7, (some .long), [], false)
set_option maxHeartbeats 4000000 in
set_option maxRecDepth 20000 in
theorem c_X0_suspects_b58 {G : hb_G} {l : Launch} {z : Bool}  (k23 : Nat → Int64 → Int64 → Int32 → hb_M → Option (Int64 × hb_M)) (hk23 : ∀ (x0 : Nat) (x2 : Int64) (x4 : Int64) (x6 : Int32) (σ : hb_M) (r : (Int64 × hb_M)), k23 x0 x2 x4 x6 σ = some r → hb_T G l z mX0_suspects 2 0 0 23 [(0, .ref x0), (2, .long x2), (4, .long x4), (6, .int x6)] [] σ (.inl (some (.long r.1)), r.2))  {x0 : Nat} {x2 : Int64} {x4 : Int64} {x6 : Int32} {σ : hb_M} {r : (Int64 × hb_M)} (h : f_X0_suspects_b58 k23 x0 x2 x4 x6 σ = some r) : hb_T G l z mX0_suspects 2 0 0 58 [(0, .ref x0), (2, .long x2), (4, .long x4), (6, .int x6)] [] σ (.inl (some (.long r.1)), r.2) := by
  unfold f_X0_suspects_b58 at h
  refine hs_iinc2 (k := (1 : Int32)) (lv' := [(6, .int (x6 + (1 : Int32))), (0, .ref x0), (2, .long x2), (4, .long x4)]) dX0_suspects_58 (by decide) 3 rfl (by decide) rfl ?_
  refine hs_goto (tgt := 23) dX0_suspects_61 (by decide) ?_
  refine hs_sub (lv' := [(0, .ref x0), (2, .long x2), (4, .long x4), (6, .int (x6 + (1 : Int32)))]) [1, 2, 3, 0] rfl ?_
  exact hk23 _ _ _ _ _ _ h
set_option maxHeartbeats 4000000 in
set_option maxRecDepth 20000 in
theorem c_X0_suspects_b23 {G : hb_G} {l : Launch} {z : Bool} : ∀ (n : Nat) (x0 : Nat) (x2 : Int64) (x4 : Int64) (x6 : Int32) (σ : hb_M) (r : (Int64 × hb_M)), f_X0_suspects_b23 n x0 x2 x4 x6 σ = some r → hb_T G l z mX0_suspects 2 0 0 23 [(0, .ref x0), (2, .long x2), (4, .long x4), (6, .int x6)] [] σ (.inl (some (.long r.1)), r.2) := by
  intro n
  induction n with
  | zero =>
    intro x0 x2 x4 x6 σ r h
    cases h
  | succ n ih =>
    intro x0 x2 x4 x6 σ r h
    rw [f_X0_suspects_b23] at h
    refine hs_iload dX0_suspects_23 3 rfl ?_
    refine hs_bipush (v := (40 : Int32)) dX0_suspects_25 (by decide) ?_
    refine hs_icmp_ge (tgt := 64) dX0_suspects_27 (by decide) (fun hc1 => ?_) (fun hc1 => ?_)
    · rw [if_pos hc1] at h
      refine hs_lload dX0_suspects_64 2 rfl ?_
      obtain rfl := Option.some.inj h
      exact hs_lreturn dX0_suspects_66 rfl (fun _ => rfl)
    · rw [if_neg hc1] at h
      refine hs_lload_n dX0_suspects_30 1 rfl ?_
      refine hs_iload dX0_suspects_31 3 rfl ?_
      obtain ⟨r2, h2, h⟩ := hb_bind h
      refine hs_callSNi (μ' := mX8_contains) (mc := 0) (ms := 0) (rc := 0) (rs := 0) (As := [.long x2, .int x6]) (rest := []) dX0_suspects_33 lnX0_101 okX8_contains rfl (by decide) rfl (Nat.le_of_ble_eq_true rfl) (c_X8_contains h2) ?_
      refine hs_if_eq (tgt := 58) dX0_suspects_36 (by decide) (fun hc3 => ?_) (fun hc3 => ?_)
      · rw [if_pos hc3] at h
        refine hs_sub (lv' := [(0, .ref x0), (2, .long x2), (4, .long x4), (6, .int x6)]) [0, 1, 2, 3] rfl ?_
        exact c_X0_suspects_b58 (f_X0_suspects_b23 n) ih h
      · rw [if_neg hc3] at h
        refine hs_lload dX0_suspects_39 2 rfl ?_
        refine hs_aload_n dX0_suspects_41 0 rfl ?_
        obtain ⟨r4, h4, h⟩ := hb_bind h
        refine hs_getR dX0_suspects_42 lkX0_29 rfl h4 ?_
        refine hs_iload dX0_suspects_45 3 rfl ?_
        obtain ⟨r5, h5, h⟩ := hb_bind h
        refine hs_iald dX0_suspects_47 h5 ?_
        obtain ⟨r6, h6, h⟩ := hb_bind h
        refine hs_callSNl (μ' := mX8_member) (mc := 0) (ms := 0) (rc := 0) (rs := 0) (As := [.int r5]) (rest := [.long x4]) dX0_suspects_48 lnX0_105 okX8_member rfl (by decide) rfl (Nat.le_of_ble_eq_true rfl) (c_X8_member h6) ?_
        refine hs_ldc2 (v := (-1 : Int64)) dX0_suspects_51 wd_664 ?_
        refine hs_lxor dX0_suspects_54 ?_
        refine hs_land dX0_suspects_55 ?_
        refine hs_lstore (lv' := [(4, .long (x4 &&& (r6.1 ^^^ (-1 : Int64)))), (0, .ref x0), (2, .long x2), (6, .int x6)]) dX0_suspects_56 (by decide) rfl ?_
        refine hs_sub (lv' := [(0, .ref x0), (2, .long x2), (4, .long (x4 &&& (r6.1 ^^^ (-1 : Int64)))), (6, .int x6)]) [1, 2, 0, 3] rfl ?_
        exact c_X0_suspects_b58 (f_X0_suspects_b23 n) ih h
set_option maxHeartbeats 4000000 in
set_option maxRecDepth 20000 in
theorem c_X0_suspects {G : hb_G} {l : Launch} {z : Bool} {x0 : Nat} {x1 : Int32} {σ : hb_M} {r : (Int64 × hb_M)} (h : f_X0_suspects x0 x1 σ = some r) : hb_Call G l z 2 0 0 mX0_suspects [.ref x0, .int x1] σ (.inl (some (.long r.1)), r.2) := by
  refine hb_met (by decide) (Nat.le_of_ble_eq_true rfl) ?_
  unfold f_X0_suspects at h
  refine hs_aload_n dX0_suspects_0 0 rfl ?_
  refine hs_aload_n dX0_suspects_1 0 rfl ?_
  obtain ⟨r1, h1, h⟩ := hb_bind h
  refine hs_getR dX0_suspects_2 lkX0_12 rfl h1 ?_
  obtain ⟨r2, h2, h⟩ := hb_bind h
  refine hs_getL dX0_suspects_5 lkX0_72 rfl h2 ?_
  refine hs_iload_n dX0_suspects_8 1 rfl ?_
  refine hs_aload_n dX0_suspects_9 0 rfl ?_
  obtain ⟨r3, h3, h⟩ := hb_bind h
  refine hs_getI dX0_suspects_10 lkX0_80 rfl h3 ?_
  obtain ⟨r4, h4, h⟩ := hb_bind h
  obtain ⟨h4, nf4, hb4⟩ := hb_on_at h4
  refine hs_callVl (μ' := mX0_retainingAtLeast) (mc := 0) (ms := 0) (rc := 0) (rs := 0) (As := [.long r2, .int x1, .int r3]) (rest := []) (ci := 0) dX0_suspects_13 lmX0_152 okX0_retainingAtLeast rfl (by decide) rfl (Nat.le_of_ble_eq_true rfl) rfl hb4 (c_X0_retainingAtLeast h4) ?_
  refine hs_lstore_n (lv' := [(2, .long r4.1), (0, .ref x0), (1, .int x1)]) dX0_suspects_16 (by decide) rfl ?_
  refine hs_lload_n dX0_suspects_17 0 rfl ?_
  refine hs_lstore (lv' := [(4, .long r4.1), (2, .long r4.1), (0, .ref x0), (1, .int x1)]) dX0_suspects_18 (by decide) rfl ?_
  refine hs_iconst (v := (0 : Int32)) dX0_suspects_20 (by decide) ?_
  refine hs_istore (lv' := [(6, .int (0 : Int32)), (4, .long r4.1), (2, .long r4.1), (0, .ref x0), (1, .int x1)]) dX0_suspects_21 (by decide) rfl ?_
  refine hs_sub (lv' := [(0, .ref x0), (2, .long r4.1), (4, .long r4.1), (6, .int (0 : Int32))]) [3, 2, 1, 0] rfl ?_
  exact c_X0_suspects_b23 hb_FU _ _ _ _ _ _ h
def mX0_greatest : hb_Y := (yX0_greatest, cX0_greatest, 5, (some .int), [], false)
theorem okX0_greatest : hb_okV mX0_greatest 1 := ⟨⟨hb_w 4 (by decide +kernel) (by decide +kernel), hb_w 1229 (by decide +kernel) (by decide +kernel), ⟨by decide +kernel, by decide +kernel, by decide +kernel⟩, by decide⟩, hb_w 1227 (by decide +kernel) (by decide +kernel), hb_w 1228 (by decide +kernel) (by decide +kernel)⟩
set_option maxHeartbeats 4000000 in
set_option maxRecDepth 20000 in
theorem c_X0_greatest_b45 {G : hb_G} {l : Launch} {z : Bool}  (k5 : Nat → Int64 → Int32 → Int32 → hb_M → Option (Int32 × hb_M)) (hk5 : ∀ (x0 : Nat) (x1 : Int64) (x3 : Int32) (x4 : Int32) (σ : hb_M) (r : (Int32 × hb_M)), k5 x0 x1 x3 x4 σ = some r → hb_T G l z mX0_greatest 1 0 0 5 [(0, .ref x0), (1, .long x1), (3, .int x3), (4, .int x4)] [] σ (.inl (some (.int r.1)), r.2))  {x0 : Nat} {x1 : Int64} {x3 : Int32} {x4 : Int32} {σ : hb_M} {r : (Int32 × hb_M)} (h : f_X0_greatest_b45 k5 x0 x1 x3 x4 σ = some r) : hb_T G l z mX0_greatest 1 0 0 45 [(0, .ref x0), (1, .long x1), (3, .int x3), (4, .int x4)] [] σ (.inl (some (.int r.1)), r.2) := by
  unfold f_X0_greatest_b45 at h
  refine hs_iinc2 (k := (1 : Int32)) (lv' := [(4, .int (x4 + (1 : Int32))), (0, .ref x0), (1, .long x1), (3, .int x3)]) dX0_greatest_45 (by decide) 3 rfl (by decide) rfl ?_
  refine hs_goto (tgt := 5) dX0_greatest_48 (by decide) ?_
  refine hs_sub (lv' := [(0, .ref x0), (1, .long x1), (3, .int x3), (4, .int (x4 + (1 : Int32)))]) [1, 2, 3, 0] rfl ?_
  exact hk5 _ _ _ _ _ _ h
set_option maxHeartbeats 4000000 in
set_option maxRecDepth 20000 in
theorem c_X0_greatest_b42 {G : hb_G} {l : Launch} {z : Bool}  (k5 : Nat → Int64 → Int32 → Int32 → hb_M → Option (Int32 × hb_M)) (hk5 : ∀ (x0 : Nat) (x1 : Int64) (x3 : Int32) (x4 : Int32) (σ : hb_M) (r : (Int32 × hb_M)), k5 x0 x1 x3 x4 σ = some r → hb_T G l z mX0_greatest 1 0 0 5 [(0, .ref x0), (1, .long x1), (3, .int x3), (4, .int x4)] [] σ (.inl (some (.int r.1)), r.2))  {x0 : Nat} {x1 : Int64} {x4 : Int32} {σ : hb_M} {r : (Int32 × hb_M)} (h : f_X0_greatest_b42 k5 x0 x1 x4 σ = some r) : hb_T G l z mX0_greatest 1 0 0 42 [(0, .ref x0), (1, .long x1), (4, .int x4)] [] σ (.inl (some (.int r.1)), r.2) := by
  unfold f_X0_greatest_b42 at h
  refine hs_iload dX0_greatest_42 2 rfl ?_
  refine hs_istore_n (lv' := [(3, .int x4), (0, .ref x0), (1, .long x1), (4, .int x4)]) dX0_greatest_44 (by decide) rfl ?_
  refine hs_sub (lv' := [(0, .ref x0), (1, .long x1), (3, .int x4), (4, .int x4)]) [1, 2, 0, 3] rfl ?_
  exact c_X0_greatest_b45 k5 hk5 h
set_option maxHeartbeats 4000000 in
set_option maxRecDepth 20000 in
theorem c_X0_greatest_b5 {G : hb_G} {l : Launch} {z : Bool} : ∀ (n : Nat) (x0 : Nat) (x1 : Int64) (x3 : Int32) (x4 : Int32) (σ : hb_M) (r : (Int32 × hb_M)), f_X0_greatest_b5 n x0 x1 x3 x4 σ = some r → hb_T G l z mX0_greatest 1 0 0 5 [(0, .ref x0), (1, .long x1), (3, .int x3), (4, .int x4)] [] σ (.inl (some (.int r.1)), r.2) := by
  intro n
  induction n with
  | zero =>
    intro x0 x1 x3 x4 σ r h
    cases h
  | succ n ih =>
    intro x0 x1 x3 x4 σ r h
    rw [f_X0_greatest_b5] at h
    refine hs_iload dX0_greatest_5 3 rfl ?_
    refine hs_bipush (v := (40 : Int32)) dX0_greatest_7 (by decide) ?_
    refine hs_icmp_ge (tgt := 51) dX0_greatest_9 (by decide) (fun hc1 => ?_) (fun hc1 => ?_)
    · rw [if_pos hc1] at h
      refine hs_iload_n dX0_greatest_51 2 rfl ?_
      obtain rfl := Option.some.inj h
      exact hs_ireturn dX0_greatest_52 rfl (by rfl) (fun _ => rfl)
    · rw [if_neg hc1] at h
      refine hs_lload_n dX0_greatest_12 1 rfl ?_
      refine hs_iload dX0_greatest_13 3 rfl ?_
      obtain ⟨r2, h2, h⟩ := hb_bind h
      refine hs_callSNi (μ' := mX8_contains) (mc := 0) (ms := 0) (rc := 0) (rs := 0) (As := [.long x1, .int x4]) (rest := []) dX0_greatest_15 lnX0_101 okX8_contains rfl (by decide) rfl (Nat.le_of_ble_eq_true rfl) (c_X8_contains h2) ?_
      refine hs_if_eq (tgt := 45) dX0_greatest_18 (by decide) (fun hc3 => ?_) (fun hc3 => ?_)
      · rw [if_pos hc3] at h
        refine hs_sub (lv' := [(0, .ref x0), (1, .long x1), (3, .int x3), (4, .int x4)]) [0, 1, 2, 3] rfl ?_
        exact c_X0_greatest_b45 (f_X0_greatest_b5 n) ih h
      · rw [if_neg hc3] at h
        refine hs_iload_n dX0_greatest_21 2 rfl ?_
        refine hs_iconst (v := (-1 : Int32)) dX0_greatest_22 (by decide) ?_
        refine hs_icmp_eq (tgt := 42) dX0_greatest_23 (by decide) (fun hc4 => ?_) (fun hc4 => ?_)
        · rw [if_pos hc4] at h
          refine hs_sub (lv' := [(0, .ref x0), (1, .long x1), (4, .int x4)]) [0, 1, 3] rfl ?_
          exact c_X0_greatest_b42 (f_X0_greatest_b5 n) ih h
        · rw [if_neg hc4] at h
          refine hs_aload_n dX0_greatest_26 0 rfl ?_
          obtain ⟨r5, h5, h⟩ := hb_bind h
          refine hs_getR dX0_greatest_27 lkX0_32 rfl h5 ?_
          refine hs_iload dX0_greatest_30 3 rfl ?_
          obtain ⟨r6, h6, h⟩ := hb_bind h
          refine hs_iald dX0_greatest_32 h6 ?_
          refine hs_aload_n dX0_greatest_33 0 rfl ?_
          obtain ⟨r7, h7, h⟩ := hb_bind h
          refine hs_getR dX0_greatest_34 lkX0_32 rfl h7 ?_
          refine hs_iload_n dX0_greatest_37 2 rfl ?_
          obtain ⟨r8, h8, h⟩ := hb_bind h
          refine hs_iald dX0_greatest_38 h8 ?_
          refine hs_icmp_le (tgt := 45) dX0_greatest_39 (by decide) (fun hc9 => ?_) (fun hc9 => ?_)
          · rw [if_pos hc9] at h
            refine hs_sub (lv' := [(0, .ref x0), (1, .long x1), (3, .int x3), (4, .int x4)]) [0, 1, 2, 3] rfl ?_
            exact c_X0_greatest_b45 (f_X0_greatest_b5 n) ih h
          · rw [if_neg hc9] at h
            refine hs_sub (lv' := [(0, .ref x0), (1, .long x1), (4, .int x4)]) [0, 1, 3] rfl ?_
            exact c_X0_greatest_b42 (f_X0_greatest_b5 n) ih h
set_option maxHeartbeats 4000000 in
set_option maxRecDepth 20000 in
theorem c_X0_greatest {G : hb_G} {l : Launch} {z : Bool} {x0 : Nat} {x1 : Int64} {σ : hb_M} {r : (Int32 × hb_M)} (h : f_X0_greatest x0 x1 σ = some r) : hb_Call G l z 1 0 0 mX0_greatest [.ref x0, .long x1] σ (.inl (some (.int r.1)), r.2) := by
  refine hb_met (by decide) (Nat.le_of_ble_eq_true rfl) ?_
  unfold f_X0_greatest at h
  refine hs_iconst (v := (-1 : Int32)) dX0_greatest_0 (by decide) ?_
  refine hs_istore_n (lv' := [(3, .int (-1 : Int32)), (0, .ref x0), (1, .long x1)]) dX0_greatest_1 (by decide) rfl ?_
  refine hs_iconst (v := (0 : Int32)) dX0_greatest_2 (by decide) ?_
  refine hs_istore (lv' := [(4, .int (0 : Int32)), (3, .int (-1 : Int32)), (0, .ref x0), (1, .long x1)]) dX0_greatest_3 (by decide) rfl ?_
  refine hs_sub (lv' := [(0, .ref x0), (1, .long x1), (3, .int (-1 : Int32)), (4, .int (0 : Int32))]) [2, 3, 1, 0] rfl ?_
  exact c_X0_greatest_b5 hb_FU _ _ _ _ _ _ h
def mX0_accumulationFrom : hb_Y := (yX0_accumulationFrom, cX0_accumulationFrom, 6, (some .int), [], false)
set_option maxHeartbeats 4000000 in
set_option maxRecDepth 20000 in
theorem c_X0_accumulationFrom_b5 {G : hb_G} {l : Launch} {z : Bool} : ∀ (n : Nat) (x0 : Nat) (x2 : Int32) (x3 : Int32) (x4 : Int32) (σ : hb_M) (r : (Int32 × hb_M)), f_X0_accumulationFrom_b5 n x0 x2 x3 x4 σ = some r → hb_T G l z mX0_accumulationFrom 2 0 0 5 [(0, .ref x0), (2, .int x2), (3, .int x3), (4, .int x4)] [] σ (.inl (some (.int r.1)), r.2) := by
  intro n
  induction n with
  | zero =>
    intro x0 x2 x3 x4 σ r h
    cases h
  | succ n ih =>
    intro x0 x2 x3 x4 σ r h
    rw [f_X0_accumulationFrom_b5] at h
    refine hs_iload dX0_accumulationFrom_5 3 rfl ?_
    refine hs_bipush (v := (40 : Int32)) dX0_accumulationFrom_7 (by decide) ?_
    refine hs_icmp_ge (tgt := 51) dX0_accumulationFrom_9 (by decide) (fun hc1 => ?_) (fun hc1 => ?_)
    · rw [if_pos hc1] at h
      refine hs_iload_n dX0_accumulationFrom_51 2 rfl ?_
      obtain rfl := Option.some.inj h
      exact hs_ireturn dX0_accumulationFrom_52 rfl (by rfl) (fun _ => rfl)
    · rw [if_neg hc1] at h
      refine hs_aload_n dX0_accumulationFrom_12 0 rfl ?_
      refine hs_aload_n dX0_accumulationFrom_13 0 rfl ?_
      refine hs_aload_n dX0_accumulationFrom_14 0 rfl ?_
      refine hs_iload_n dX0_accumulationFrom_15 2 rfl ?_
      obtain ⟨r2, h2, h⟩ := hb_bind h
      obtain ⟨h2, nf2, hb2⟩ := hb_on_at h2
      refine hs_callVl (μ' := mX0_children) (mc := 0) (ms := 0) (rc := 0) (rs := 0) (As := [.int x3]) (rest := [.ref x0, .ref x0]) (ci := 0) dX0_accumulationFrom_16 lmX0_156 okX0_children rfl (by decide) rfl (Nat.le_of_ble_eq_true rfl) rfl hb2 (c_X0_children h2) ?_
      refine hs_iload_n dX0_accumulationFrom_19 1 rfl ?_
      refine hs_aload_n dX0_accumulationFrom_20 0 rfl ?_
      obtain ⟨r3, h3, h⟩ := hb_bind h
      refine hs_getR dX0_accumulationFrom_21 lkX0_32 rfl h3 ?_
      refine hs_iload_n dX0_accumulationFrom_24 2 rfl ?_
      obtain ⟨r4, h4, h⟩ := hb_bind h
      refine hs_iald dX0_accumulationFrom_25 h4 ?_
      obtain ⟨r5, h5, h⟩ := hb_bind h
      obtain ⟨h5, nf5, hb5⟩ := hb_on_at h5
      refine hs_callVl (μ' := mX0_retainingAtLeast) (mc := 0) (ms := 0) (rc := 0) (rs := 0) (As := [.long r2.1, .int x2, .int r4]) (rest := [.ref x0]) (ci := 0) dX0_accumulationFrom_26 lmX0_152 okX0_retainingAtLeast rfl (by decide) rfl (Nat.le_of_ble_eq_true rfl) rfl hb5 (c_X0_retainingAtLeast h5) ?_
      obtain ⟨r6, h6, h⟩ := hb_bind h
      obtain ⟨h6, nf6, hb6⟩ := hb_on_at h6
      refine hs_callVi (μ' := mX0_greatest) (mc := 0) (ms := 0) (rc := 0) (rs := 0) (As := [.long r5.1]) (rest := []) (ci := 0) dX0_accumulationFrom_29 lmX0_159 okX0_greatest rfl (by decide) rfl (Nat.le_of_ble_eq_true rfl) rfl hb6 (c_X0_greatest h6) ?_
      refine hs_istore (lv' := [(5, .int r6.1), (0, .ref x0), (2, .int x2), (3, .int x3), (4, .int x4)]) dX0_accumulationFrom_32 (by decide) rfl ?_
      refine hs_iload dX0_accumulationFrom_34 0 rfl ?_
      refine hs_iconst (v := (-1 : Int32)) dX0_accumulationFrom_36 (by decide) ?_
      refine hs_icmp_ne (tgt := 42) dX0_accumulationFrom_37 (by decide) (fun hc7 => ?_) (fun hc7 => ?_)
      · rw [if_neg hc7] at h
        refine hs_iload dX0_accumulationFrom_42 0 rfl ?_
        refine hs_istore_n (lv' := [(3, .int r6.1), (5, .int r6.1), (0, .ref x0), (2, .int x2), (4, .int x4)]) dX0_accumulationFrom_44 (by decide) rfl ?_
        refine hs_iinc2 (k := (1 : Int32)) (lv' := [(4, .int (x4 + (1 : Int32))), (3, .int r6.1), (5, .int r6.1), (0, .ref x0), (2, .int x2)]) dX0_accumulationFrom_45 (by decide) 4 rfl (by decide) rfl ?_
        refine hs_goto (tgt := 5) dX0_accumulationFrom_48 (by decide) ?_
        refine hs_sub (lv' := [(0, .ref x0), (2, .int x2), (3, .int r6.1), (4, .int (x4 + (1 : Int32)))]) [3, 4, 1, 0] rfl ?_
        exact ih _ _ _ _ _ _ h
      · rw [if_pos hc7] at h
        refine hs_iload_n dX0_accumulationFrom_40 3 rfl ?_
        obtain rfl := Option.some.inj h
        exact hs_ireturn dX0_accumulationFrom_41 rfl (by rfl) (fun _ => rfl)
set_option maxHeartbeats 4000000 in
set_option maxRecDepth 20000 in
theorem c_X0_accumulationFrom {G : hb_G} {l : Launch} {z : Bool} {x0 : Nat} {x1 : Int32} {x2 : Int32} {σ : hb_M} {r : (Int32 × hb_M)} (h : f_X0_accumulationFrom x0 x1 x2 σ = some r) : hb_Call G l z 2 0 0 mX0_accumulationFrom [.ref x0, .int x1, .int x2] σ (.inl (some (.int r.1)), r.2) := by
  refine hb_met (by decide) (Nat.le_of_ble_eq_true rfl) ?_
  unfold f_X0_accumulationFrom at h
  refine hs_iload_n dX0_accumulationFrom_0 1 rfl ?_
  refine hs_istore_n (lv' := [(3, .int x1), (0, .ref x0), (1, .int x1), (2, .int x2)]) dX0_accumulationFrom_1 (by decide) rfl ?_
  refine hs_iconst (v := (0 : Int32)) dX0_accumulationFrom_2 (by decide) ?_
  refine hs_istore (lv' := [(4, .int (0 : Int32)), (3, .int x1), (0, .ref x0), (1, .int x1), (2, .int x2)]) dX0_accumulationFrom_3 (by decide) rfl ?_
  refine hs_sub (lv' := [(0, .ref x0), (2, .int x2), (3, .int x1), (4, .int (0 : Int32))]) [2, 4, 1, 0] rfl ?_
  exact c_X0_accumulationFrom_b5 hb_FU _ _ _ _ _ _ h
def mX2_init : hb_Y := (yX2_init, cX2_init, 1, none, [], false)
set_option maxHeartbeats 4000000 in
set_option maxRecDepth 20000 in
theorem c_X2_init {G : hb_G} {l : Launch} {z : Bool} {x0 : Nat} {σ : hb_M} {r : hb_M} (h : f_X2_init x0 σ = some r) : hb_Call G l z 0 0 0 mX2_init [.ref x0] σ (.inl none, r) := by
  refine hb_met (by decide) (Nat.le_of_ble_eq_true rfl) ?_
  unfold f_X2_init at h
  refine hs_aload_n dX2_init_0 0 rfl ?_
  refine hs_objInit dX2_init_1 wd_278 hb_oi1 hb_oi2 (Nat.le_of_ble_eq_true rfl) ?_
  obtain rfl := Option.some.inj h
  exact hs_return dX2_init_4 rfl (fun _ => rfl)
def mX2_begin : hb_Y := (yX2_begin, cX2_begin, 2, none, [], false)
set_option maxHeartbeats 4000000 in
set_option maxRecDepth 20000 in
theorem c_X2_begin {G : hb_G} {l : Launch} {z : Bool} {x0 : Nat} {x1 : Int32} {σ : hb_M} {r : hb_M} (h : f_X2_begin x0 x1 σ = some r) : hb_Call G l z 0 0 0 mX2_begin [.ref x0, .int x1] σ (.inl none, r) := by
  refine hb_met (by decide) (Nat.le_of_ble_eq_true rfl) ?_
  unfold f_X2_begin at h
  refine hs_aload_n dX2_begin_0 0 rfl ?_
  refine hs_iload_n dX2_begin_1 1 rfl ?_
  refine hs_i2l dX2_begin_2 ?_
  obtain ⟨r1, h1, h⟩ := hb_bind h
  refine hs_putL dX2_begin_3 lpX2_begin_9 rfl h1 ?_
  obtain rfl := Option.some.inj h
  exact hs_return dX2_begin_6 rfl (fun _ => rfl)
def mX2_below : hb_Y := (yX2_below, cX2_below, 2, (some .int), [], false)
theorem okX2_below : hb_okV mX2_below 1 := ⟨⟨hb_w 10 (by decide +kernel) (by decide +kernel), hb_w 1058 (by decide +kernel) (by decide +kernel), ⟨by decide +kernel, by decide +kernel, by decide +kernel⟩, by decide⟩, hb_w 1057 (by decide +kernel) (by decide +kernel), hb_wp (q := (yX2_below, 1)) 29 (by decide +kernel) (by decide +kernel)⟩
set_option maxHeartbeats 4000000 in
set_option maxRecDepth 20000 in
theorem c_X2_below {G : hb_G} {l : Launch} {z : Bool} {x0 : Nat} {x1 : Int32} {σ : hb_M} {r : (Int32 × hb_M)} (h : f_X2_below x0 x1 σ = some r) : hb_Call G l z 0 0 0 mX2_below [.ref x0, .int x1] σ (.inl (some (.int r.1)), r.2) := by
  refine hb_met (by decide) (Nat.le_of_ble_eq_true rfl) ?_
  unfold f_X2_below at h
  refine hs_aload_n dX2_below_0 0 rfl ?_
  refine hs_aload_n dX2_below_1 0 rfl ?_
  obtain ⟨r1, h1, h⟩ := hb_bind h
  refine hs_getL dX2_below_2 lkX2_9 rfl h1 ?_
  refine hs_ldc2 (v := (1103515245 : Int64)) dX2_below_5 wd_1059 ?_
  refine hs_lmul dX2_below_8 ?_
  refine hs_ldc2 (v := (12345 : Int64)) dX2_below_9 wd_1060 ?_
  refine hs_ladd dX2_below_12 ?_
  refine hs_ldc2 (v := (2147483648 : Int64)) dX2_below_13 wd_1061 ?_
  refine hs_lrem dX2_below_16 (by decide) ?_
  obtain ⟨r2, h2, h⟩ := hb_bind h
  refine hs_putL dX2_below_17 lpX2_below_9 rfl h2 ?_
  refine hs_iload_n dX2_below_20 1 rfl ?_
  refine hs_if_le (tgt := 39) dX2_below_21 (by decide) (fun hc3 => ?_) (fun hc3 => ?_)
  · rw [if_pos hc3] at h
    refine hs_iconst (v := (0 : Int32)) dX2_below_39 (by decide) ?_
    obtain rfl := Option.some.inj h
    exact hs_ireturn dX2_below_40 rfl (by rfl) (fun _ => rfl)
  · rw [if_neg hc3] at h
    refine hs_aload_n dX2_below_24 0 rfl ?_
    obtain ⟨r4, h4, h⟩ := hb_bind h
    refine hs_getL dX2_below_25 lkX2_9 rfl h4 ?_
    refine hs_ldc2 (v := (65536 : Int64)) dX2_below_28 wd_1062 ?_
    refine hs_ldiv dX2_below_31 (by decide) ?_
    refine hs_iload_n dX2_below_32 1 rfl ?_
    refine hs_i2l dX2_below_33 ?_
    by_cases hc5 : x1.toInt64 = 0
    · rw [if_pos hc5] at h
      cases h
    rw [if_neg hc5] at h
    refine hs_lrem dX2_below_34 hc5 ?_
    refine hs_l2i dX2_below_35 ?_
    refine hs_goto (tgt := 40) dX2_below_36 (by decide) ?_
    obtain rfl := Option.some.inj h
    exact hs_ireturn dX2_below_40 rfl (by rfl) (fun _ => rfl)
def mX2_newObject : hb_Y := (yX2_newObject, cX2_newObject, 2, (some .int), [], false)
theorem okX2_newObject : hb_okV mX2_newObject 1 := ⟨⟨hb_w 10 (by decide +kernel) (by decide +kernel), hb_w 1054 (by decide +kernel) (by decide +kernel), ⟨by decide +kernel, by decide +kernel, by decide +kernel⟩, by decide⟩, hb_w 1053 (by decide +kernel) (by decide +kernel), hb_wp (q := (yX2_newObject, 1)) 28 (by decide +kernel) (by decide +kernel)⟩
set_option maxHeartbeats 4000000 in
set_option maxRecDepth 20000 in
theorem c_X2_newObject {G : hb_G} {l : Launch} {z : Bool} {x0 : Nat} {x1 : Nat} {σ : hb_M} {r : (Int32 × hb_M)} (h : f_X2_newObject x0 x1 σ = some r) : hb_Call G l z 3 0 0 mX2_newObject [.ref x0, .ref x1] σ (.inl (some (.int r.1)), r.2) := by
  refine hb_met (by decide) (Nat.le_of_ble_eq_true rfl) ?_
  unfold f_X2_newObject at h
  refine hs_aload_n dX2_newObject_0 0 rfl ?_
  refine hs_iconst (v := (4 : Int32)) dX2_newObject_1 (by decide) ?_
  obtain ⟨r1, h1, h⟩ := hb_bind h
  obtain ⟨h1, nf1, hb1⟩ := hb_on_at h1
  refine hs_callVi (μ' := mX2_below) (mc := 0) (ms := 0) (rc := 0) (rs := 0) (As := [.int (4 : Int32)]) (rest := []) (ci := 2) dX2_newObject_2 lmX2_33 okX2_below rfl (by decide) rfl (Nat.le_of_ble_eq_true rfl) rfl hb1 (c_X2_below h1) ?_
  by_cases hc2 : r1.1 = (2 : Int32)
  · rw [if_pos hc2] at h
    refine hs_lkpC (tgt := 32) (off := 27) (2 : Int32) dX2_newObject_5 (by decide) hc2 (by decide) (by decide) ?_
    refine hs_aload_n dX2_newObject_32 1 rfl ?_
    refine hs_aload_n dX2_newObject_33 0 rfl ?_
    refine hs_bipush (v := (9 : Int32)) dX2_newObject_34 (by decide) ?_
    obtain ⟨r3, h3, h⟩ := hb_bind h
    obtain ⟨h3, nf3, hb3⟩ := hb_on_at h3
    refine hs_callVi (μ' := mX2_below) (mc := 0) (ms := 0) (rc := 0) (rs := 0) (As := [.int (9 : Int32)]) (rest := [.ref x1]) (ci := 2) dX2_newObject_36 lmX2_33 okX2_below rfl (by decide) rfl (Nat.le_of_ble_eq_true rfl) rfl hb3 (c_X2_below h3) ?_
    obtain ⟨r4, h4, h⟩ := hb_bind h
    obtain ⟨h4, nf4, hb4⟩ := hb_on_at h4
    refine hs_callVi (μ' := mX4_addArray) (mc := 0) (ms := 0) (rc := 0) (rs := 0) (As := [.int r3.1]) (rest := []) (ci := 4) dX2_newObject_39 lmX2_63 okX4_addArray rfl (by decide) rfl (Nat.le_of_ble_eq_true rfl) rfl hb4 (c_X4_addArray h4) ?_
    obtain rfl := Option.some.inj h
    exact hs_ireturn dX2_newObject_42 rfl (by rfl) (fun _ => rfl)
  rw [if_neg hc2] at h
  by_cases hc5 : r1.1 = (3 : Int32)
  · rw [if_pos hc5] at h
    refine hs_lkpC (tgt := 43) (off := 38) (3 : Int32) dX2_newObject_5 (by decide) hc5 (by decide) (by decide) ?_
    refine hs_aload_n dX2_newObject_43 1 rfl ?_
    obtain ⟨r6, h6, h⟩ := hb_bind h
    obtain ⟨h6, nf6, hb6⟩ := hb_on_at h6
    refine hs_callVi (μ' := mX4_addHolder) (mc := 0) (ms := 0) (rc := 0) (rs := 0) (As := []) (rest := []) (ci := 4) dX2_newObject_44 lmX2_66 okX4_addHolder rfl (by decide) rfl (Nat.le_of_ble_eq_true rfl) rfl hb6 (c_X4_addHolder h6) ?_
    obtain rfl := Option.some.inj h
    exact hs_ireturn dX2_newObject_47 rfl (by rfl) (fun _ => rfl)
  rw [if_neg hc5] at h
  refine hs_lkpD (tgt := 48) [(2 : Int32), (3 : Int32)] dX2_newObject_5 (by decide) (by simp only [List.mem_cons, List.not_mem_nil, or_false, forall_eq_or_imp, forall_eq]; exact ⟨hc2, hc5⟩) (by decide) (by decide) ?_
  refine hs_aload_n dX2_newObject_48 1 rfl ?_
  refine hs_aload_n dX2_newObject_49 0 rfl ?_
  refine hs_aload_n dX2_newObject_50 1 rfl ?_
  obtain ⟨r7, h7, h⟩ := hb_bind h
  refine hs_getI dX2_newObject_51 lkX2_70 rfl h7 ?_
  obtain ⟨r8, h8, h⟩ := hb_bind h
  obtain ⟨h8, nf8, hb8⟩ := hb_on_at h8
  refine hs_callVi (μ' := mX2_below) (mc := 0) (ms := 0) (rc := 0) (rs := 0) (As := [.int r7]) (rest := [.ref x1]) (ci := 2) dX2_newObject_54 lmX2_33 okX2_below rfl (by decide) rfl (Nat.le_of_ble_eq_true rfl) rfl hb8 (c_X2_below h8) ?_
  obtain ⟨r9, h9, h⟩ := hb_bind h
  obtain ⟨h9, nf9, hb9⟩ := hb_on_at h9
  refine hs_callVi (μ' := mX4_addInstance) (mc := 0) (ms := 0) (rc := 0) (rs := 0) (As := [.int r8.1]) (rest := []) (ci := 4) dX2_newObject_57 lmX2_74 okX4_addInstance rfl (by decide) rfl (Nat.le_of_ble_eq_true rfl) rfl hb9 (c_X4_addInstance h9) ?_
  obtain rfl := Option.some.inj h
  exact hs_ireturn dX2_newObject_60 rfl (by rfl) (fun _ => rfl)
def mX8_memberAt : hb_Y := (yX8_memberAt, cX8_memberAt, 5, (some .int), [], false)
theorem okX8_memberAt : hb_okS mX8_memberAt 2 := ⟨⟨hb_w 1 (by decide +kernel) (by decide +kernel), hb_w 650 (by decide +kernel) (by decide +kernel), ⟨by decide +kernel, by decide +kernel, by decide +kernel⟩, by decide⟩, hb_w 649 (by decide +kernel) (by decide +kernel)⟩
set_option maxHeartbeats 4000000 in
set_option maxRecDepth 20000 in
theorem c_X8_memberAt_b38 {G : hb_G} {l : Launch} {z : Bool}  (k11 : Int64 → Int32 → Int32 → Int32 → hb_M → Option (Int32 × hb_M)) (hk11 : ∀ (x0 : Int64) (x2 : Int32) (x3 : Int32) (x4 : Int32) (σ : hb_M) (r : (Int32 × hb_M)), k11 x0 x2 x3 x4 σ = some r → hb_T G l z mX8_memberAt 1 0 0 11 [(0, .long x0), (2, .int x2), (3, .int x3), (4, .int x4)] [] σ (.inl (some (.int r.1)), r.2))  {x0 : Int64} {x2 : Int32} {x3 : Int32} {x4 : Int32} {σ : hb_M} {r : (Int32 × hb_M)} (h : f_X8_memberAt_b38 k11 x0 x2 x3 x4 σ = some r) : hb_T G l z mX8_memberAt 1 0 0 38 [(0, .long x0), (2, .int x2), (3, .int x3), (4, .int x4)] [] σ (.inl (some (.int r.1)), r.2) := by
  unfold f_X8_memberAt_b38 at h
  refine hs_iinc2 (k := (1 : Int32)) (lv' := [(4, .int (x4 + (1 : Int32))), (0, .long x0), (2, .int x2), (3, .int x3)]) dX8_memberAt_38 (by decide) 3 rfl (by decide) rfl ?_
  refine hs_goto (tgt := 11) dX8_memberAt_41 (by decide) ?_
  refine hs_sub (lv' := [(0, .long x0), (2, .int x2), (3, .int x3), (4, .int (x4 + (1 : Int32)))]) [1, 2, 3, 0] rfl ?_
  exact hk11 _ _ _ _ _ _ h
set_option maxHeartbeats 4000000 in
set_option maxRecDepth 20000 in
theorem c_X8_memberAt_b11 {G : hb_G} {l : Launch} {z : Bool} : ∀ (n : Nat) (x0 : Int64) (x2 : Int32) (x3 : Int32) (x4 : Int32) (σ : hb_M) (r : (Int32 × hb_M)), f_X8_memberAt_b11 n x0 x2 x3 x4 σ = some r → hb_T G l z mX8_memberAt 1 0 0 11 [(0, .long x0), (2, .int x2), (3, .int x3), (4, .int x4)] [] σ (.inl (some (.int r.1)), r.2) := by
  intro n
  induction n with
  | zero =>
    intro x0 x2 x3 x4 σ r h
    cases h
  | succ n ih =>
    intro x0 x2 x3 x4 σ r h
    rw [f_X8_memberAt_b11] at h
    refine hs_iload dX8_memberAt_11 3 rfl ?_
    refine hs_bipush (v := (40 : Int32)) dX8_memberAt_13 (by decide) ?_
    refine hs_icmp_ge (tgt := 44) dX8_memberAt_15 (by decide) (fun hc1 => ?_) (fun hc1 => ?_)
    · rw [if_pos hc1] at h
      refine hs_iconst (v := (-1 : Int32)) dX8_memberAt_44 (by decide) ?_
      obtain rfl := Option.some.inj h
      exact hs_ireturn dX8_memberAt_45 rfl (by rfl) (fun _ => rfl)
    · rw [if_neg hc1] at h
      refine hs_lload_n dX8_memberAt_18 0 rfl ?_
      refine hs_iload dX8_memberAt_19 3 rfl ?_
      obtain ⟨r2, h2, h⟩ := hb_bind h
      refine hs_callSi (μ' := mX8_contains) (mc := 0) (ms := 0) (rc := 0) (rs := 0) (As := [.long x0, .int x4]) (rest := []) dX8_memberAt_21 lmX8_205 okX8_contains rfl (by decide) rfl (Nat.le_of_ble_eq_true rfl) (c_X8_contains h2) ?_
      refine hs_if_eq (tgt := 38) dX8_memberAt_24 (by decide) (fun hc3 => ?_) (fun hc3 => ?_)
      · rw [if_pos hc3] at h
        refine hs_sub (lv' := [(0, .long x0), (2, .int x2), (3, .int x3), (4, .int x4)]) [0, 1, 2, 3] rfl ?_
        exact c_X8_memberAt_b38 (f_X8_memberAt_b11 n) ih h
      · rw [if_neg hc3] at h
        refine hs_iload_n dX8_memberAt_27 2 rfl ?_
        refine hs_iload_n dX8_memberAt_28 1 rfl ?_
        refine hs_icmp_ne (tgt := 35) dX8_memberAt_29 (by decide) (fun hc4 => ?_) (fun hc4 => ?_)
        · rw [if_neg hc4] at h
          refine hs_iinc2 (k := (1 : Int32)) (lv' := [(3, .int (x3 + (1 : Int32))), (0, .long x0), (2, .int x2), (4, .int x4)]) dX8_memberAt_35 (by decide) 2 rfl (by decide) rfl ?_
          refine hs_sub (lv' := [(0, .long x0), (2, .int x2), (3, .int (x3 + (1 : Int32))), (4, .int x4)]) [1, 2, 0, 3] rfl ?_
          exact c_X8_memberAt_b38 (f_X8_memberAt_b11 n) ih h
        · rw [if_pos hc4] at h
          refine hs_iload dX8_memberAt_32 3 rfl ?_
          obtain rfl := Option.some.inj h
          exact hs_ireturn dX8_memberAt_34 rfl (by rfl) (fun _ => rfl)
set_option maxHeartbeats 4000000 in
set_option maxRecDepth 20000 in
theorem c_X8_memberAt {G : hb_G} {l : Launch} {z : Bool} {x0 : Int64} {x2 : Int32} {σ : hb_M} {r : (Int32 × hb_M)} (h : f_X8_memberAt x0 x2 σ = some r) : hb_Call G l z 1 0 0 mX8_memberAt [.long x0, .int x2] σ (.inl (some (.int r.1)), r.2) := by
  refine hb_met (by decide) (Nat.le_of_ble_eq_true rfl) ?_
  unfold f_X8_memberAt at h
  refine hs_iload_n dX8_memberAt_0 1 rfl ?_
  refine hs_if_ge (tgt := 6) dX8_memberAt_1 (by decide) (fun hc1 => ?_) (fun hc1 => ?_)
  · rw [if_pos hc1] at h
    refine hs_iconst (v := (0 : Int32)) dX8_memberAt_6 (by decide) ?_
    refine hs_istore_n (lv' := [(3, .int (0 : Int32)), (0, .long x0), (2, .int x2)]) dX8_memberAt_7 (by decide) rfl ?_
    refine hs_iconst (v := (0 : Int32)) dX8_memberAt_8 (by decide) ?_
    refine hs_istore (lv' := [(4, .int (0 : Int32)), (3, .int (0 : Int32)), (0, .long x0), (2, .int x2)]) dX8_memberAt_9 (by decide) rfl ?_
    refine hs_sub (lv' := [(0, .long x0), (2, .int x2), (3, .int (0 : Int32)), (4, .int (0 : Int32))]) [2, 3, 1, 0] rfl ?_
    exact c_X8_memberAt_b11 hb_FU _ _ _ _ _ _ h
  · rw [if_neg hc1] at h
    refine hs_iconst (v := (-1 : Int32)) dX8_memberAt_4 (by decide) ?_
    obtain rfl := Option.some.inj h
    exact hs_ireturn dX8_memberAt_5 rfl (by rfl) (fun _ => rfl)
def mX2_addTo : hb_Y := (yX2_addTo, cX2_addTo, 6, none, [], false)
set_option maxHeartbeats 4000000 in
set_option maxRecDepth 20000 in
theorem c_X2_addTo_b58 {G : hb_G} {l : Launch} {z : Bool}  (k8 : Nat → Nat → Int32 → Int32 → hb_M → Option hb_M) (hk8 : ∀ (x0 : Nat) (x1 : Nat) (x2 : Int32) (x3 : Int32) (σ : hb_M) (r : hb_M), k8 x0 x1 x2 x3 σ = some r → hb_T G l z mX2_addTo 4 0 0 8 [(0, .ref x0), (1, .ref x1), (2, .int x2), (3, .int x3)] [] σ (.inl none, r))  {x0 : Nat} {x1 : Nat} {x2 : Int32} {x3 : Int32} {σ : hb_M} {r : hb_M} (h : f_X2_addTo_b58 k8 x0 x1 x2 x3 σ = some r) : hb_T G l z mX2_addTo 4 0 0 58 [(0, .ref x0), (1, .ref x1), (2, .int x2), (3, .int x3)] [] σ (.inl none, r) := by
  unfold f_X2_addTo_b58 at h
  refine hs_iinc2 (k := (1 : Int32)) (lv' := [(3, .int (x3 + (1 : Int32))), (0, .ref x0), (1, .ref x1), (2, .int x2)]) dX2_addTo_58 (by decide) 3 rfl (by decide) rfl ?_
  refine hs_goto (tgt := 8) dX2_addTo_61 (by decide) ?_
  refine hs_sub (lv' := [(0, .ref x0), (1, .ref x1), (2, .int x2), (3, .int (x3 + (1 : Int32)))]) [1, 2, 3, 0] rfl ?_
  exact hk8 _ _ _ _ _ _ h
set_option maxHeartbeats 4000000 in
set_option maxRecDepth 20000 in
theorem c_X2_addTo_b8 {G : hb_G} {l : Launch} {z : Bool} : ∀ (n : Nat) (x0 : Nat) (x1 : Nat) (x2 : Int32) (x3 : Int32) (σ : hb_M) (r : hb_M), f_X2_addTo_b8 n x0 x1 x2 x3 σ = some r → hb_T G l z mX2_addTo 4 0 0 8 [(0, .ref x0), (1, .ref x1), (2, .int x2), (3, .int x3)] [] σ (.inl none, r) := by
  intro n
  induction n with
  | zero =>
    intro x0 x1 x2 x3 σ r h
    cases h
  | succ n ih =>
    intro x0 x1 x2 x3 σ r h
    rw [f_X2_addTo_b8] at h
    refine hs_iload_n dX2_addTo_8 3 rfl ?_
    refine hs_bipush (v := (8 : Int32)) dX2_addTo_9 (by decide) ?_
    refine hs_icmp_ge (tgt := 64) dX2_addTo_11 (by decide) (fun hc1 => ?_) (fun hc1 => ?_)
    · rw [if_pos hc1] at h
      refine hs_aload_n dX2_addTo_64 0 rfl ?_
      refine hs_iconst (v := (5 : Int32)) dX2_addTo_65 (by decide) ?_
      obtain ⟨r2, h2, h⟩ := hb_bind h
      obtain ⟨h2, nf2, hb2⟩ := hb_on_at h2
      refine hs_callVi (μ' := mX2_below) (mc := 0) (ms := 0) (rc := 0) (rs := 0) (As := [.int (5 : Int32)]) (rest := []) (ci := 2) dX2_addTo_66 lmX2_33 okX2_below rfl (by decide) rfl (Nat.le_of_ble_eq_true rfl) rfl hb2 (c_X2_below h2) ?_
      refine hs_if_ne (tgt := 93) dX2_addTo_69 (by decide) (fun hc3 => ?_) (fun hc3 => ?_)
      · rw [if_neg hc3] at h
        obtain rfl := Option.some.inj h
        exact hs_return dX2_addTo_93 rfl (fun _ => rfl)
      · rw [if_pos hc3] at h
        refine hs_aload_n dX2_addTo_72 1 rfl ?_
        refine hs_iload_n dX2_addTo_73 2 rfl ?_
        obtain ⟨r4, h4, h⟩ := hb_bind h
        obtain ⟨h4, nf4, hb4⟩ := hb_on_at h4
        refine hs_callVi (μ' := mX4_hasObject) (mc := 0) (ms := 0) (rc := 0) (rs := 0) (As := [.int x2]) (rest := []) (ci := 4) dX2_addTo_74 lmX2_55 okX4_hasObject rfl (by decide) rfl (Nat.le_of_ble_eq_true rfl) rfl hb4 (c_X4_hasObject h4) ?_
        refine hs_if_eq (tgt := 93) dX2_addTo_77 (by decide) (fun hc5 => ?_) (fun hc5 => ?_)
        · rw [if_pos hc5] at h
          obtain rfl := Option.some.inj h
          exact hs_return dX2_addTo_93 rfl (fun _ => rfl)
        · rw [if_neg hc5] at h
          refine hs_aload_n dX2_addTo_80 1 rfl ?_
          refine hs_iload_n dX2_addTo_81 2 rfl ?_
          refine hs_iconst (v := (1 : Int32)) dX2_addTo_82 (by decide) ?_
          refine hs_aload_n dX2_addTo_83 0 rfl ?_
          refine hs_iconst (v := (3 : Int32)) dX2_addTo_84 (by decide) ?_
          obtain ⟨r6, h6, h⟩ := hb_bind h
          obtain ⟨h6, nf6, hb6⟩ := hb_on_at h6
          refine hs_callVi (μ' := mX2_below) (mc := 0) (ms := 0) (rc := 0) (rs := 0) (As := [.int (3 : Int32)]) (rest := [.int (1 : Int32), .int x2, .ref x1]) (ci := 2) dX2_addTo_85 lmX2_33 okX2_below rfl (by decide) rfl (Nat.le_of_ble_eq_true rfl) rfl hb6 (c_X2_below h6) ?_
          refine hs_ishl dX2_addTo_88 ?_
          obtain ⟨r7, h7, h⟩ := hb_bind h
          obtain ⟨h7, nf7, hb7⟩ := hb_on_at h7
          refine hs_callVi (μ' := mX4_putRoots) (mc := 0) (ms := 0) (rc := 0) (rs := 0) (As := [.int x2, .int ((1 : Int32) <<< (r6.1 &&& 31))]) (rest := []) (ci := 4) dX2_addTo_89 lmX2_59 okX4_putRoots rfl (by decide) rfl (Nat.le_of_ble_eq_true rfl) rfl hb7 (c_X4_putRoots h7) ?_
          refine hs_pop dX2_addTo_92 rfl ?_
          obtain rfl := Option.some.inj h
          exact hs_return dX2_addTo_93 rfl (fun _ => rfl)
    · rw [if_neg hc1] at h
      refine hs_aload_n dX2_addTo_14 1 rfl ?_
      refine hs_iload_n dX2_addTo_15 2 rfl ?_
      refine hs_iload_n dX2_addTo_16 3 rfl ?_
      obtain ⟨r8, h8, h⟩ := hb_bind h
      obtain ⟨h8, nf8, hb8⟩ := hb_on_at h8
      refine hs_callVi (μ' := mX4_hasSlot) (mc := 0) (ms := 0) (rc := 0) (rs := 0) (As := [.int x2, .int x3]) (rest := []) (ci := 4) dX2_addTo_17 lmX2_27 okX4_hasSlot rfl (by decide) rfl (Nat.le_of_ble_eq_true rfl) rfl hb8 (c_X4_hasSlot h8) ?_
      refine hs_if_eq (tgt := 58) dX2_addTo_20 (by decide) (fun hc9 => ?_) (fun hc9 => ?_)
      · rw [if_pos hc9] at h
        refine hs_sub (lv' := [(0, .ref x0), (1, .ref x1), (2, .int x2), (3, .int x3)]) [0, 1, 2, 3] rfl ?_
        exact c_X2_addTo_b58 (f_X2_addTo_b8 n) ih h
      · rw [if_neg hc9] at h
        refine hs_aload_n dX2_addTo_23 0 rfl ?_
        refine hs_iconst (v := (3 : Int32)) dX2_addTo_24 (by decide) ?_
        obtain ⟨r10, h10, h⟩ := hb_bind h
        obtain ⟨h10, nf10, hb10⟩ := hb_on_at h10
        refine hs_callVi (μ' := mX2_below) (mc := 0) (ms := 0) (rc := 0) (rs := 0) (As := [.int (3 : Int32)]) (rest := []) (ci := 2) dX2_addTo_25 lmX2_33 okX2_below rfl (by decide) rfl (Nat.le_of_ble_eq_true rfl) rfl hb10 (c_X2_below h10) ?_
        refine hs_if_eq (tgt := 58) dX2_addTo_28 (by decide) (fun hc11 => ?_) (fun hc11 => ?_)
        · rw [if_pos hc11] at h
          refine hs_sub (lv' := [(0, .ref x0), (1, .ref x1), (2, .int x2), (3, .int x3)]) [0, 1, 2, 3] rfl ?_
          exact c_X2_addTo_b58 (f_X2_addTo_b8 n) ih h
        · rw [if_neg hc11] at h
          refine hs_aload_n dX2_addTo_31 1 rfl ?_
          obtain ⟨r12, h12, h⟩ := hb_bind h
          obtain ⟨h12, nf12, hb12⟩ := hb_on_at h12
          refine hs_callVl (μ' := mX4_allObjects) (mc := 0) (ms := 0) (rc := 0) (rs := 0) (As := []) (rest := []) (ci := 4) dX2_addTo_32 lmX2_37 okX4_allObjects rfl (by decide) rfl (Nat.le_of_ble_eq_true rfl) rfl hb12 (c_X4_allObjects h12) ?_
          refine hs_lstore (lv' := [(4, .long r12.1), (0, .ref x0), (1, .ref x1), (2, .int x2), (3, .int x3)]) dX2_addTo_35 (by decide) rfl ?_
          refine hs_aload_n dX2_addTo_37 2 rfl ?_
          refine hs_iload_n dX2_addTo_38 3 rfl ?_
          refine hs_iload_n dX2_addTo_39 4 rfl ?_
          refine hs_lload dX2_addTo_40 0 rfl ?_
          refine hs_aload_n dX2_addTo_42 1 rfl ?_
          refine hs_lload dX2_addTo_43 0 rfl ?_
          obtain ⟨r13, h13, h⟩ := hb_bind h
          refine hs_callSi (μ' := mJ13_bitCount_95d88) (mc := 0) (ms := 0) (rc := 0) (rs := 0) (As := [.long r12.1]) (rest := [.ref x0, .long r12.1, .int x3, .int x2, .ref x1]) dX2_addTo_45 lmX2_41 okJ13_bitCount_95d88 rfl (by decide) rfl (Nat.le_of_ble_eq_true rfl) (c_J13_bitCount_95d88 h13) ?_
          obtain ⟨r14, h14, h⟩ := hb_bind h
          obtain ⟨h14, nf14, hb14⟩ := hb_on_at h14
          refine hs_callVi (μ' := mX2_below) (mc := 0) (ms := 0) (rc := 0) (rs := 0) (As := [.int r13.1]) (rest := [.long r12.1, .int x3, .int x2, .ref x1]) (ci := 2) dX2_addTo_48 lmX2_33 okX2_below rfl (by decide) rfl (Nat.le_of_ble_eq_true rfl) rfl hb14 (c_X2_below h14) ?_
          obtain ⟨r15, h15, h⟩ := hb_bind h
          refine hs_callSNi (μ' := mX8_memberAt) (mc := 0) (ms := 0) (rc := 0) (rs := 0) (As := [.long r12.1, .int r14.1]) (rest := [.int x3, .int x2, .ref x1]) dX2_addTo_51 lnX2_47 okX8_memberAt rfl (by decide) rfl (Nat.le_of_ble_eq_true rfl) (c_X8_memberAt h15) ?_
          obtain ⟨r16, h16, h⟩ := hb_bind h
          obtain ⟨h16, nf16, hb16⟩ := hb_on_at h16
          refine hs_callVi (μ' := mX4_putTarget) (mc := 0) (ms := 0) (rc := 0) (rs := 0) (As := [.int x2, .int x3, .int r15.1]) (rest := []) (ci := 4) dX2_addTo_54 lmX2_51 okX4_putTarget rfl (by decide) rfl (Nat.le_of_ble_eq_true rfl) rfl hb16 (c_X4_putTarget h16) ?_
          refine hs_pop dX2_addTo_57 rfl ?_
          refine hs_sub (lv' := [(0, .ref x0), (1, .ref x1), (2, .int x2), (3, .int x3)]) [1, 2, 3, 4] rfl ?_
          exact c_X2_addTo_b58 (f_X2_addTo_b8 n) ih h
set_option maxHeartbeats 4000000 in
set_option maxRecDepth 20000 in
theorem c_X2_addTo {G : hb_G} {l : Launch} {z : Bool} {x0 : Nat} {x1 : Nat} {σ : hb_M} {r : hb_M} (h : f_X2_addTo x0 x1 σ = some r) : hb_Call G l z 4 0 0 mX2_addTo [.ref x0, .ref x1] σ (.inl none, r) := by
  refine hb_met (by decide) (Nat.le_of_ble_eq_true rfl) ?_
  unfold f_X2_addTo at h
  refine hs_aload_n dX2_addTo_0 0 rfl ?_
  refine hs_aload_n dX2_addTo_1 1 rfl ?_
  obtain ⟨r1, h1, h⟩ := hb_bind h
  obtain ⟨h1, nf1, hb1⟩ := hb_on_at h1
  refine hs_callVi (μ' := mX2_newObject) (mc := 0) (ms := 0) (rc := 0) (rs := 0) (As := [.ref x1]) (rest := []) (ci := 2) dX2_addTo_2 lmX2_23 okX2_newObject rfl (by decide) rfl (Nat.le_of_ble_eq_true rfl) rfl hb1 (c_X2_newObject h1) ?_
  refine hs_istore_n (lv' := [(2, .int r1.1), (0, .ref x0), (1, .ref x1)]) dX2_addTo_5 (by decide) rfl ?_
  refine hs_iconst (v := (0 : Int32)) dX2_addTo_6 (by decide) ?_
  refine hs_istore_n (lv' := [(3, .int (0 : Int32)), (2, .int r1.1), (0, .ref x0), (1, .ref x1)]) dX2_addTo_7 (by decide) rfl ?_
  refine hs_sub (lv' := [(0, .ref x0), (1, .ref x1), (2, .int r1.1), (3, .int (0 : Int32))]) [2, 3, 1, 0] rfl ?_
  exact c_X2_addTo_b8 hb_FU _ _ _ _ _ _ h
def mX5_init : hb_Y := (yX5_init, cX5_init, 2, none, [], false)
set_option maxHeartbeats 4000000 in
set_option maxRecDepth 20000 in
theorem c_X5_init {G : hb_G} {l : Launch} {x0 : Nat} {σ : hb_M} {r : hb_M} (h : f_X5_init x0 σ = some r) : hb_Call G l false 2 67 3624 mX5_init [.ref x0] σ (.inl none, r) := by
  refine hb_met (by decide) (Nat.le_of_ble_eq_true rfl) ?_
  unfold f_X5_init at h
  refine hs_aload_n dX5_init_0 0 rfl ?_
  refine hs_objInit dX5_init_1 wd_189 hb_oi1 hb_oi2 (Nat.le_of_ble_eq_true rfl) ?_
  refine hs_aload_n dX5_init_4 0 rfl ?_
  refine hs_bipush (v := (6 : Int32)) dX5_init_5 (by decide) ?_
  obtain ⟨r1, h1, h⟩ := hb_bind h
  refine hs_newH (rc := 66) (rs := 3618) (k := 6) dX5_init_7 wd_190 h1 (by decide) ?_
  obtain ⟨r2, h2, h⟩ := hb_bind h
  refine hs_putR dX5_init_10 lpX5_init_11 rfl h2 ?_
  refine hs_iconst (v := (0 : Int32)) dX5_init_13 (by decide) ?_
  refine hs_istore_n (lv' := [(1, .int (0 : Int32)), (0, .ref x0)]) dX5_init_14 (by decide) rfl ?_
  refine hs_iload_n dX5_init_15 0 rfl ?_
  refine hs_iconst (v := (5 : Int32)) dX5_init_16 (by decide) ?_
  refine hs_icmp_gt (tgt := 39) dX5_init_17 (by decide) (fun hc => absurd hc (by decide)) (fun _ => ?_)
  refine hs_aload_n dX5_init_20 1 rfl ?_
  obtain ⟨r4, h4, h⟩ := hb_bind h
  refine hs_getR dX5_init_21 lkX5_11 rfl h4 ?_
  refine hs_iload_n dX5_init_24 0 rfl ?_
  obtain ⟨r5, h5, h⟩ := hb_bind h
  refine hs_newO (rc := 65) (rs := 3605) (N := 13) (ci := 4) (C := RX4) (T := TX4) dX5_init_25 rfl (by decide +kernel) wd_190 wd_38 wd_2 h5 ?_
  refine hs_dup dX5_init_28 rfl ?_
  obtain ⟨r6, h6, h⟩ := hb_bind h
  refine hs_callIv (mc := 10) (ms := 590) (rc := 55) (rs := 3015) (y9 := yX4_init) (cc9 := cX4_init) (nL9 := 1) (As := []) (rest := [.ref r5.1, .int (0 : Int32), .ref r4]) dX5_init_29 (Or.inl lmX5_17) okX4_init rfl (by decide) rfl (Nat.le_of_ble_eq_true rfl) (c_X4_init h6) ?_
  obtain ⟨r7, h7, h⟩ := hb_bind h
  refine hs_aast dX5_init_32 h7 ?_
  refine hs_iinc2 (k := (1 : Int32)) (lv' := [(1, .int ((0 : Int32) + (1 : Int32))), (0, .ref x0)]) dX5_init_33 (by decide) 0 rfl (by decide) rfl ?_
  refine hs_goto (tgt := 15) dX5_init_36 (by decide) ?_
  refine hs_iload_n dX5_init_15 0 rfl ?_
  refine hs_iconst (v := (5 : Int32)) dX5_init_16 (by decide) ?_
  refine hs_icmp_gt (tgt := 39) dX5_init_17 (by decide) (fun hc => absurd hc (by decide)) (fun _ => ?_)
  refine hs_aload_n dX5_init_20 1 rfl ?_
  obtain ⟨r9, h9, h⟩ := hb_bind h
  refine hs_getR dX5_init_21 lkX5_11 rfl h9 ?_
  refine hs_iload_n dX5_init_24 0 rfl ?_
  obtain ⟨r10, h10, h⟩ := hb_bind h
  refine hs_newO (rc := 54) (rs := 3002) (N := 13) (ci := 4) (C := RX4) (T := TX4) dX5_init_25 rfl (by decide +kernel) wd_190 wd_38 wd_2 h10 ?_
  refine hs_dup dX5_init_28 rfl ?_
  obtain ⟨r11, h11, h⟩ := hb_bind h
  refine hs_callIv (mc := 10) (ms := 590) (rc := 44) (rs := 2412) (y9 := yX4_init) (cc9 := cX4_init) (nL9 := 1) (As := []) (rest := [.ref r10.1, .int ((0 : Int32) + (1 : Int32)), .ref r9]) dX5_init_29 (Or.inl lmX5_17) okX4_init rfl (by decide) rfl (Nat.le_of_ble_eq_true rfl) (c_X4_init h11) ?_
  obtain ⟨r12, h12, h⟩ := hb_bind h
  refine hs_aast dX5_init_32 h12 ?_
  refine hs_iinc2 (k := (1 : Int32)) (lv' := [(1, .int (((0 : Int32) + (1 : Int32)) + (1 : Int32))), (0, .ref x0)]) dX5_init_33 (by decide) 0 rfl (by decide) rfl ?_
  refine hs_goto (tgt := 15) dX5_init_36 (by decide) ?_
  refine hs_iload_n dX5_init_15 0 rfl ?_
  refine hs_iconst (v := (5 : Int32)) dX5_init_16 (by decide) ?_
  refine hs_icmp_gt (tgt := 39) dX5_init_17 (by decide) (fun hc => absurd hc (by decide)) (fun _ => ?_)
  refine hs_aload_n dX5_init_20 1 rfl ?_
  obtain ⟨r14, h14, h⟩ := hb_bind h
  refine hs_getR dX5_init_21 lkX5_11 rfl h14 ?_
  refine hs_iload_n dX5_init_24 0 rfl ?_
  obtain ⟨r15, h15, h⟩ := hb_bind h
  refine hs_newO (rc := 43) (rs := 2399) (N := 13) (ci := 4) (C := RX4) (T := TX4) dX5_init_25 rfl (by decide +kernel) wd_190 wd_38 wd_2 h15 ?_
  refine hs_dup dX5_init_28 rfl ?_
  obtain ⟨r16, h16, h⟩ := hb_bind h
  refine hs_callIv (mc := 10) (ms := 590) (rc := 33) (rs := 1809) (y9 := yX4_init) (cc9 := cX4_init) (nL9 := 1) (As := []) (rest := [.ref r15.1, .int (((0 : Int32) + (1 : Int32)) + (1 : Int32)), .ref r14]) dX5_init_29 (Or.inl lmX5_17) okX4_init rfl (by decide) rfl (Nat.le_of_ble_eq_true rfl) (c_X4_init h16) ?_
  obtain ⟨r17, h17, h⟩ := hb_bind h
  refine hs_aast dX5_init_32 h17 ?_
  refine hs_iinc2 (k := (1 : Int32)) (lv' := [(1, .int ((((0 : Int32) + (1 : Int32)) + (1 : Int32)) + (1 : Int32))), (0, .ref x0)]) dX5_init_33 (by decide) 0 rfl (by decide) rfl ?_
  refine hs_goto (tgt := 15) dX5_init_36 (by decide) ?_
  refine hs_iload_n dX5_init_15 0 rfl ?_
  refine hs_iconst (v := (5 : Int32)) dX5_init_16 (by decide) ?_
  refine hs_icmp_gt (tgt := 39) dX5_init_17 (by decide) (fun hc => absurd hc (by decide)) (fun _ => ?_)
  refine hs_aload_n dX5_init_20 1 rfl ?_
  obtain ⟨r19, h19, h⟩ := hb_bind h
  refine hs_getR dX5_init_21 lkX5_11 rfl h19 ?_
  refine hs_iload_n dX5_init_24 0 rfl ?_
  obtain ⟨r20, h20, h⟩ := hb_bind h
  refine hs_newO (rc := 32) (rs := 1796) (N := 13) (ci := 4) (C := RX4) (T := TX4) dX5_init_25 rfl (by decide +kernel) wd_190 wd_38 wd_2 h20 ?_
  refine hs_dup dX5_init_28 rfl ?_
  obtain ⟨r21, h21, h⟩ := hb_bind h
  refine hs_callIv (mc := 10) (ms := 590) (rc := 22) (rs := 1206) (y9 := yX4_init) (cc9 := cX4_init) (nL9 := 1) (As := []) (rest := [.ref r20.1, .int ((((0 : Int32) + (1 : Int32)) + (1 : Int32)) + (1 : Int32)), .ref r19]) dX5_init_29 (Or.inl lmX5_17) okX4_init rfl (by decide) rfl (Nat.le_of_ble_eq_true rfl) (c_X4_init h21) ?_
  obtain ⟨r22, h22, h⟩ := hb_bind h
  refine hs_aast dX5_init_32 h22 ?_
  refine hs_iinc2 (k := (1 : Int32)) (lv' := [(1, .int (((((0 : Int32) + (1 : Int32)) + (1 : Int32)) + (1 : Int32)) + (1 : Int32))), (0, .ref x0)]) dX5_init_33 (by decide) 0 rfl (by decide) rfl ?_
  refine hs_goto (tgt := 15) dX5_init_36 (by decide) ?_
  refine hs_iload_n dX5_init_15 0 rfl ?_
  refine hs_iconst (v := (5 : Int32)) dX5_init_16 (by decide) ?_
  refine hs_icmp_gt (tgt := 39) dX5_init_17 (by decide) (fun hc => absurd hc (by decide)) (fun _ => ?_)
  refine hs_aload_n dX5_init_20 1 rfl ?_
  obtain ⟨r24, h24, h⟩ := hb_bind h
  refine hs_getR dX5_init_21 lkX5_11 rfl h24 ?_
  refine hs_iload_n dX5_init_24 0 rfl ?_
  obtain ⟨r25, h25, h⟩ := hb_bind h
  refine hs_newO (rc := 21) (rs := 1193) (N := 13) (ci := 4) (C := RX4) (T := TX4) dX5_init_25 rfl (by decide +kernel) wd_190 wd_38 wd_2 h25 ?_
  refine hs_dup dX5_init_28 rfl ?_
  obtain ⟨r26, h26, h⟩ := hb_bind h
  refine hs_callIv (mc := 10) (ms := 590) (rc := 11) (rs := 603) (y9 := yX4_init) (cc9 := cX4_init) (nL9 := 1) (As := []) (rest := [.ref r25.1, .int (((((0 : Int32) + (1 : Int32)) + (1 : Int32)) + (1 : Int32)) + (1 : Int32)), .ref r24]) dX5_init_29 (Or.inl lmX5_17) okX4_init rfl (by decide) rfl (Nat.le_of_ble_eq_true rfl) (c_X4_init h26) ?_
  obtain ⟨r27, h27, h⟩ := hb_bind h
  refine hs_aast dX5_init_32 h27 ?_
  refine hs_iinc2 (k := (1 : Int32)) (lv' := [(1, .int ((((((0 : Int32) + (1 : Int32)) + (1 : Int32)) + (1 : Int32)) + (1 : Int32)) + (1 : Int32))), (0, .ref x0)]) dX5_init_33 (by decide) 0 rfl (by decide) rfl ?_
  refine hs_goto (tgt := 15) dX5_init_36 (by decide) ?_
  refine hs_iload_n dX5_init_15 0 rfl ?_
  refine hs_iconst (v := (5 : Int32)) dX5_init_16 (by decide) ?_
  refine hs_icmp_gt (tgt := 39) dX5_init_17 (by decide) (fun hc => absurd hc (by decide)) (fun _ => ?_)
  refine hs_aload_n dX5_init_20 1 rfl ?_
  obtain ⟨r29, h29, h⟩ := hb_bind h
  refine hs_getR dX5_init_21 lkX5_11 rfl h29 ?_
  refine hs_iload_n dX5_init_24 0 rfl ?_
  obtain ⟨r30, h30, h⟩ := hb_bind h
  refine hs_newO (rc := 10) (rs := 590) (N := 13) (ci := 4) (C := RX4) (T := TX4) dX5_init_25 rfl (by decide +kernel) wd_190 wd_38 wd_2 h30 ?_
  refine hs_dup dX5_init_28 rfl ?_
  obtain ⟨r31, h31, h⟩ := hb_bind h
  refine hs_callIv (mc := 10) (ms := 590) (rc := 0) (rs := 0) (y9 := yX4_init) (cc9 := cX4_init) (nL9 := 1) (As := []) (rest := [.ref r30.1, .int ((((((0 : Int32) + (1 : Int32)) + (1 : Int32)) + (1 : Int32)) + (1 : Int32)) + (1 : Int32)), .ref r29]) dX5_init_29 (Or.inl lmX5_17) okX4_init rfl (by decide) rfl (Nat.le_of_ble_eq_true rfl) (c_X4_init h31) ?_
  obtain ⟨r32, h32, h⟩ := hb_bind h
  refine hs_aast dX5_init_32 h32 ?_
  refine hs_iinc2 (k := (1 : Int32)) (lv' := [(1, .int (((((((0 : Int32) + (1 : Int32)) + (1 : Int32)) + (1 : Int32)) + (1 : Int32)) + (1 : Int32)) + (1 : Int32))), (0, .ref x0)]) dX5_init_33 (by decide) 0 rfl (by decide) rfl ?_
  refine hs_goto (tgt := 15) dX5_init_36 (by decide) ?_
  refine hs_iload_n dX5_init_15 0 rfl ?_
  refine hs_iconst (v := (5 : Int32)) dX5_init_16 (by decide) ?_
  refine hs_icmp_gt (tgt := 39) dX5_init_17 (by decide) (fun _ => ?_) (fun hc => absurd (by decide) hc)
  obtain rfl := Option.some.inj h
  exact hs_return dX5_init_39 rfl (fun _ => rfl)
def mX5_note : hb_Y := (yX5_note, cX5_note, 2, none, [], false)
theorem okX5_note : hb_okV mX5_note 1 := ⟨⟨hb_w 6 (by decide +kernel) (by decide +kernel), hb_w 327 (by decide +kernel) (by decide +kernel), ⟨by decide +kernel, by decide +kernel, by decide +kernel⟩, by decide⟩, hb_w 325 (by decide +kernel) (by decide +kernel), hb_w 326 (by decide +kernel) (by decide +kernel)⟩
set_option maxHeartbeats 4000000 in
set_option maxRecDepth 20000 in
theorem c_X5_note {G : hb_G} {l : Launch} {z : Bool} {x0 : Nat} {x1 : Nat} {σ : hb_M} {r : hb_M} (h : f_X5_note x0 x1 σ = some r) : hb_Call G l z 1 0 0 mX5_note [.ref x0, .ref x1] σ (.inl none, r) := by
  refine hb_met (by decide) (Nat.le_of_ble_eq_true rfl) ?_
  unfold f_X5_note at h
  refine hs_aload_n dX5_note_0 0 rfl ?_
  obtain ⟨r1, h1, h⟩ := hb_bind h
  refine hs_getR dX5_note_1 lkX5_11 rfl h1 ?_
  refine hs_aload_n dX5_note_4 0 rfl ?_
  obtain ⟨r2, h2, h⟩ := hb_bind h
  refine hs_getI dX5_note_5 lkX5_18 rfl h2 ?_
  obtain ⟨r3, h3, h⟩ := hb_bind h
  refine hs_aald dX5_note_8 h3 ?_
  refine hs_aload_n dX5_note_9 1 rfl ?_
  obtain ⟨r4, h4, h⟩ := hb_bind h
  obtain ⟨h4, nf4, hb4⟩ := hb_on_at h4
  refine hs_callVv (μ' := mX4_copyFrom) (mc := 0) (ms := 0) (rc := 0) (rs := 0) (As := [.ref x1]) (rest := []) (ci := 4) dX5_note_10 lmX5_22 okX4_copyFrom rfl (by decide) rfl (Nat.le_of_ble_eq_true rfl) rfl hb4 (c_X4_copyFrom h4) ?_
  obtain rfl := Option.some.inj h
  exact hs_return dX5_note_13 rfl (fun _ => rfl)
def mX5_noted : hb_Y := (yX5_noted, cX5_noted, 1, (some (.object "HeapBrowser$Heap")), [], false)
set_option maxHeartbeats 4000000 in
set_option maxRecDepth 20000 in
theorem c_X5_noted {G : hb_G} {l : Launch} {z : Bool} {x0 : Nat} {σ : hb_M} {r : (Nat × hb_M)} (h : f_X5_noted x0 σ = some r) : hb_Call G l z 0 0 0 mX5_noted [.ref x0] σ (.inl (some (.ref r.1)), r.2) := by
  refine hb_met (by decide) (Nat.le_of_ble_eq_true rfl) ?_
  unfold f_X5_noted at h
  refine hs_aload_n dX5_noted_0 0 rfl ?_
  obtain ⟨r1, h1, h⟩ := hb_bind h
  refine hs_getR dX5_noted_1 lkX5_11 rfl h1 ?_
  refine hs_aload_n dX5_noted_4 0 rfl ?_
  obtain ⟨r2, h2, h⟩ := hb_bind h
  refine hs_getI dX5_noted_5 lkX5_18 rfl h2 ?_
  obtain ⟨r3, h3, h⟩ := hb_bind h
  refine hs_aald dX5_noted_8 h3 ?_
  obtain rfl := Option.some.inj h
  exact hs_areturn dX5_noted_9 rfl (fun _ => rfl)
def mX5_keepNoted : hb_Y := (yX5_keepNoted, cX5_keepNoted, 3, none, [], false)
theorem okX5_keepNoted : hb_okV mX5_keepNoted 0 := ⟨⟨hb_w 6 (by decide +kernel) (by decide +kernel), hb_w 338 (by decide +kernel) (by decide +kernel), ⟨by decide +kernel, by decide +kernel, by decide +kernel⟩, by decide⟩, hb_w 336 (by decide +kernel) (by decide +kernel), hb_w 337 (by decide +kernel) (by decide +kernel)⟩
set_option maxHeartbeats 4000000 in
set_option maxRecDepth 20000 in
theorem c_X5_keepNoted_b28 {G : hb_G} {l : Launch} {z : Bool} : ∀ (n : Nat) (x0 : Nat) (x1 : Nat) (x2 : Int32) (σ : hb_M) (r : hb_M), f_X5_keepNoted_b28 n x0 x1 x2 σ = some r → hb_T G l z mX5_keepNoted 0 0 0 28 [(0, .ref x0), (1, .ref x1), (2, .int x2)] [] σ (.inl none, r) := by
  intro n
  induction n with
  | zero =>
    intro x0 x1 x2 σ r h
    cases h
  | succ n ih =>
    intro x0 x1 x2 σ r h
    rw [f_X5_keepNoted_b28] at h
    refine hs_iload_n dX5_keepNoted_28 2 rfl ?_
    refine hs_iconst (v := (5 : Int32)) dX5_keepNoted_29 (by decide) ?_
    refine hs_icmp_ge (tgt := 53) dX5_keepNoted_30 (by decide) (fun hc1 => ?_) (fun hc1 => ?_)
    · rw [if_pos hc1] at h
      refine hs_aload_n dX5_keepNoted_53 0 rfl ?_
      obtain ⟨r2, h2, h⟩ := hb_bind h
      refine hs_getR dX5_keepNoted_54 lkX5_11 rfl h2 ?_
      refine hs_iconst (v := (5 : Int32)) dX5_keepNoted_57 (by decide) ?_
      refine hs_aload_n dX5_keepNoted_58 1 rfl ?_
      obtain ⟨r3, h3, h⟩ := hb_bind h
      refine hs_aast dX5_keepNoted_59 h3 ?_
      obtain rfl := Option.some.inj h
      exact hs_return dX5_keepNoted_60 rfl (fun _ => rfl)
    · rw [if_neg hc1] at h
      refine hs_aload_n dX5_keepNoted_33 0 rfl ?_
      obtain ⟨r4, h4, h⟩ := hb_bind h
      refine hs_getR dX5_keepNoted_34 lkX5_11 rfl h4 ?_
      refine hs_iload_n dX5_keepNoted_37 2 rfl ?_
      refine hs_aload_n dX5_keepNoted_38 0 rfl ?_
      obtain ⟨r5, h5, h⟩ := hb_bind h
      refine hs_getR dX5_keepNoted_39 lkX5_11 rfl h5 ?_
      refine hs_iload_n dX5_keepNoted_42 2 rfl ?_
      refine hs_iconst (v := (1 : Int32)) dX5_keepNoted_43 (by decide) ?_
      refine hs_iadd dX5_keepNoted_44 ?_
      obtain ⟨r6, h6, h⟩ := hb_bind h
      refine hs_aald dX5_keepNoted_45 h6 ?_
      obtain ⟨r7, h7, h⟩ := hb_bind h
      refine hs_aast dX5_keepNoted_46 h7 ?_
      refine hs_iinc2 (k := (1 : Int32)) (lv' := [(2, .int (x2 + (1 : Int32))), (0, .ref x0), (1, .ref x1)]) dX5_keepNoted_47 (by decide) 2 rfl (by decide) rfl ?_
      refine hs_goto (tgt := 28) dX5_keepNoted_50 (by decide) ?_
      refine hs_sub (lv' := [(0, .ref x0), (1, .ref x1), (2, .int (x2 + (1 : Int32)))]) [1, 2, 0] rfl ?_
      exact ih _ _ _ _ _ h
set_option maxHeartbeats 4000000 in
set_option maxRecDepth 20000 in
theorem c_X5_keepNoted {G : hb_G} {l : Launch} {z : Bool} {x0 : Nat} {σ : hb_M} {r : hb_M} (h : f_X5_keepNoted x0 σ = some r) : hb_Call G l z 0 0 0 mX5_keepNoted [.ref x0] σ (.inl none, r) := by
  refine hb_met (by decide) (Nat.le_of_ble_eq_true rfl) ?_
  unfold f_X5_keepNoted at h
  refine hs_aload_n dX5_keepNoted_0 0 rfl ?_
  obtain ⟨r1, h1, h⟩ := hb_bind h
  refine hs_getI dX5_keepNoted_1 lkX5_18 rfl h1 ?_
  refine hs_iconst (v := (5 : Int32)) dX5_keepNoted_4 (by decide) ?_
  refine hs_icmp_ge (tgt := 19) dX5_keepNoted_5 (by decide) (fun hc2 => ?_) (fun hc2 => ?_)
  · rw [if_pos hc2] at h
    refine hs_aload_n dX5_keepNoted_19 0 rfl ?_
    obtain ⟨r3, h3, h⟩ := hb_bind h
    refine hs_getR dX5_keepNoted_20 lkX5_11 rfl h3 ?_
    refine hs_iconst (v := (0 : Int32)) dX5_keepNoted_23 (by decide) ?_
    obtain ⟨r4, h4, h⟩ := hb_bind h
    refine hs_aald dX5_keepNoted_24 h4 ?_
    refine hs_astore_n (lv' := [(1, .ref r4), (0, .ref x0)]) dX5_keepNoted_25 (by decide) rfl ?_
    refine hs_iconst (v := (0 : Int32)) dX5_keepNoted_26 (by decide) ?_
    refine hs_istore_n (lv' := [(2, .int (0 : Int32)), (1, .ref r4), (0, .ref x0)]) dX5_keepNoted_27 (by decide) rfl ?_
    refine hs_sub (lv' := [(0, .ref x0), (1, .ref r4), (2, .int (0 : Int32))]) [2, 1, 0] rfl ?_
    exact c_X5_keepNoted_b28 hb_FU _ _ _ _ _ h
  · rw [if_neg hc2] at h
    refine hs_aload_n dX5_keepNoted_8 0 rfl ?_
    refine hs_dup dX5_keepNoted_9 rfl ?_
    obtain ⟨r5, h5, h⟩ := hb_bind h
    refine hs_getI dX5_keepNoted_10 lkX5_18 rfl h5 ?_
    refine hs_iconst (v := (1 : Int32)) dX5_keepNoted_13 (by decide) ?_
    refine hs_iadd dX5_keepNoted_14 ?_
    obtain ⟨r6, h6, h⟩ := hb_bind h
    refine hs_putI dX5_keepNoted_15 lpX5_keepNoted_18 rfl h6 ?_
    obtain rfl := Option.some.inj h
    exact hs_return dX5_keepNoted_18 rfl (fun _ => rfl)
def mX5_save : hb_Y := (yX5_save, cX5_save, 2, none, [], false)
set_option maxHeartbeats 4000000 in
set_option maxRecDepth 20000 in
theorem c_X5_save {G : hb_G} {l : Launch} {z : Bool} {x0 : Nat} {x1 : Nat} {σ : hb_M} {r : hb_M} (h : f_X5_save x0 x1 σ = some r) : hb_Call G l z 2 0 0 mX5_save [.ref x0, .ref x1] σ (.inl none, r) := by
  refine hb_met (by decide) (Nat.le_of_ble_eq_true rfl) ?_
  unfold f_X5_save at h
  refine hs_aload_n dX5_save_0 0 rfl ?_
  refine hs_aload_n dX5_save_1 1 rfl ?_
  obtain ⟨r1, h1, h⟩ := hb_bind h
  obtain ⟨h1, nf1, hb1⟩ := hb_on_at h1
  refine hs_callVv (μ' := mX5_note) (mc := 0) (ms := 0) (rc := 0) (rs := 0) (As := [.ref x1]) (rest := []) (ci := 5) dX5_save_2 lmX5_26 okX5_note rfl (by decide) rfl (Nat.le_of_ble_eq_true rfl) rfl hb1 (c_X5_note h1) ?_
  refine hs_aload_n dX5_save_5 0 rfl ?_
  obtain ⟨r2, h2, h⟩ := hb_bind h
  obtain ⟨h2, nf2, hb2⟩ := hb_on_at h2
  refine hs_callVv (μ' := mX5_keepNoted) (mc := 0) (ms := 0) (rc := 0) (rs := 0) (As := []) (rest := []) (ci := 5) dX5_save_6 lmX5_29 okX5_keepNoted rfl (by decide) rfl (Nat.le_of_ble_eq_true rfl) rfl hb2 (c_X5_keepNoted h2) ?_
  obtain rfl := Option.some.inj h
  exact hs_return dX5_save_9 rfl (fun _ => rfl)
def mX5_latest : hb_Y := (yX5_latest, cX5_latest, 1, (some (.object "HeapBrowser$Heap")), [], false)
set_option maxHeartbeats 4000000 in
set_option maxRecDepth 20000 in
theorem c_X5_latest {G : hb_G} {l : Launch} {z : Bool} {x0 : Nat} {σ : hb_M} {r : (Nat × hb_M)} (h : f_X5_latest x0 σ = some r) : hb_Call G l z 0 0 0 mX5_latest [.ref x0] σ (.inl (some (.ref r.1)), r.2) := by
  refine hb_met (by decide) (Nat.le_of_ble_eq_true rfl) ?_
  unfold f_X5_latest at h
  refine hs_aload_n dX5_latest_0 0 rfl ?_
  obtain ⟨r1, h1, h⟩ := hb_bind h
  refine hs_getR dX5_latest_1 lkX5_11 rfl h1 ?_
  refine hs_aload_n dX5_latest_4 0 rfl ?_
  obtain ⟨r2, h2, h⟩ := hb_bind h
  refine hs_getI dX5_latest_5 lkX5_18 rfl h2 ?_
  refine hs_iconst (v := (1 : Int32)) dX5_latest_8 (by decide) ?_
  refine hs_isub dX5_latest_9 ?_
  refine hs_iconst (v := (0 : Int32)) dX5_latest_10 (by decide) ?_
  refine hs_mmax dX5_latest_11 wd_1313 hb_mmax1 hb_m0 hb_mmax2 (Nat.le_of_ble_eq_true rfl) ?_
  obtain ⟨r3, h3, h⟩ := hb_bind h
  refine hs_aald dX5_latest_14 h3 ?_
  obtain rfl := Option.some.inj h
  exact hs_areturn dX5_latest_15 rfl (fun _ => rfl)
def mX5_dropLatest : hb_Y := (yX5_dropLatest, cX5_dropLatest, 1, none, [], false)
set_option maxHeartbeats 4000000 in
set_option maxRecDepth 20000 in
theorem c_X5_dropLatest {G : hb_G} {l : Launch} {z : Bool} {x0 : Nat} {σ : hb_M} {r : hb_M} (h : f_X5_dropLatest x0 σ = some r) : hb_Call G l z 0 0 0 mX5_dropLatest [.ref x0] σ (.inl none, r) := by
  refine hb_met (by decide) (Nat.le_of_ble_eq_true rfl) ?_
  unfold f_X5_dropLatest at h
  refine hs_aload_n dX5_dropLatest_0 0 rfl ?_
  refine hs_aload_n dX5_dropLatest_1 0 rfl ?_
  obtain ⟨r1, h1, h⟩ := hb_bind h
  refine hs_getI dX5_dropLatest_2 lkX5_18 rfl h1 ?_
  refine hs_iconst (v := (1 : Int32)) dX5_dropLatest_5 (by decide) ?_
  refine hs_isub dX5_dropLatest_6 ?_
  refine hs_iconst (v := (0 : Int32)) dX5_dropLatest_7 (by decide) ?_
  refine hs_mmax dX5_dropLatest_8 wd_1313 hb_mmax1 hb_m0 hb_mmax2 (Nat.le_of_ble_eq_true rfl) ?_
  obtain ⟨r2, h2, h⟩ := hb_bind h
  refine hs_putI dX5_dropLatest_11 lpX5_dropLatest_18 rfl h2 ?_
  obtain rfl := Option.some.inj h
  exact hs_return dX5_dropLatest_14 rfl (fun _ => rfl)
def mX6_pathObject : hb_Y := (yX6_pathObject, cX6_pathObject, 5, (some .int), [], false)
set_option maxHeartbeats 4000000 in
set_option maxRecDepth 20000 in
theorem c_X6_pathObject_b26 {G : hb_G} {l : Launch} {z : Bool} : ∀ (n : Nat) (x0 : Nat) (x2 : Int32) (x3 : Int32) (x4 : Int32) (σ : hb_M) (r : (Int32 × hb_M)), f_X6_pathObject_b26 n x0 x2 x3 x4 σ = some r → hb_T G l z mX6_pathObject 0 0 0 26 [(0, .ref x0), (2, .int x2), (3, .int x3), (4, .int x4)] [] σ (.inl (some (.int r.1)), r.2) := by
  intro n
  induction n with
  | zero =>
    intro x0 x2 x3 x4 σ r h
    cases h
  | succ n ih =>
    intro x0 x2 x3 x4 σ r h
    rw [f_X6_pathObject_b26] at h
    refine hs_iload dX6_pathObject_26 3 rfl ?_
    refine hs_iload_n dX6_pathObject_28 1 rfl ?_
    refine hs_icmp_le (tgt := 49) dX6_pathObject_29 (by decide) (fun hc1 => ?_) (fun hc1 => ?_)
    · rw [if_pos hc1] at h
      refine hs_iload_n dX6_pathObject_49 2 rfl ?_
      obtain rfl := Option.some.inj h
      exact hs_ireturn dX6_pathObject_50 rfl (by rfl) (fun _ => rfl)
    · rw [if_neg hc1] at h
      refine hs_iload_n dX6_pathObject_32 2 rfl ?_
      refine hs_if_lt (tgt := 49) dX6_pathObject_33 (by decide) (fun hc2 => ?_) (fun hc2 => ?_)
      · rw [if_pos hc2] at h
        refine hs_iload_n dX6_pathObject_49 2 rfl ?_
        obtain rfl := Option.some.inj h
        exact hs_ireturn dX6_pathObject_50 rfl (by rfl) (fun _ => rfl)
      · rw [if_neg hc2] at h
        refine hs_aload_n dX6_pathObject_36 0 rfl ?_
        obtain ⟨r3, h3, h⟩ := hb_bind h
        refine hs_getR dX6_pathObject_37 lkX6_18 rfl h3 ?_
        refine hs_iload_n dX6_pathObject_40 2 rfl ?_
        obtain ⟨r4, h4, h⟩ := hb_bind h
        refine hs_iald dX6_pathObject_41 h4 ?_
        refine hs_istore_n (lv' := [(3, .int r4), (0, .ref x0), (2, .int x2), (4, .int x4)]) dX6_pathObject_42 (by decide) rfl ?_
        refine hs_iinc2 (k := (-1 : Int32)) (lv' := [(4, .int (x4 + (-1 : Int32))), (3, .int r4), (0, .ref x0), (2, .int x2)]) dX6_pathObject_43 (by decide) 3 rfl (by decide) rfl ?_
        refine hs_goto (tgt := 26) dX6_pathObject_46 (by decide) ?_
        refine hs_sub (lv' := [(0, .ref x0), (2, .int x2), (3, .int r4), (4, .int (x4 + (-1 : Int32)))]) [2, 3, 1, 0] rfl ?_
        exact ih _ _ _ _ _ _ h
set_option maxHeartbeats 4000000 in
set_option maxRecDepth 20000 in
theorem c_X6_pathObject {G : hb_G} {l : Launch} {z : Bool} {x0 : Nat} {x1 : Int32} {x2 : Int32} {σ : hb_M} {r : (Int32 × hb_M)} (h : f_X6_pathObject x0 x1 x2 σ = some r) : hb_Call G l z 0 0 0 mX6_pathObject [.ref x0, .int x1, .int x2] σ (.inl (some (.int r.1)), r.2) := by
  refine hb_met (by decide) (Nat.le_of_ble_eq_true rfl) ?_
  unfold f_X6_pathObject at h
  refine hs_iload_n dX6_pathObject_0 2 rfl ?_
  refine hs_if_lt (tgt := 14) dX6_pathObject_1 (by decide) (fun hc1 => ?_) (fun hc1 => ?_)
  · rw [if_pos hc1] at h
    refine hs_iconst (v := (-1 : Int32)) dX6_pathObject_14 (by decide) ?_
    obtain rfl := Option.some.inj h
    exact hs_ireturn dX6_pathObject_15 rfl (by rfl) (fun _ => rfl)
  · rw [if_neg hc1] at h
    refine hs_iload_n dX6_pathObject_4 2 rfl ?_
    refine hs_aload_n dX6_pathObject_5 0 rfl ?_
    obtain ⟨r2, h2, h⟩ := hb_bind h
    refine hs_getR dX6_pathObject_6 lkX6_15 rfl h2 ?_
    refine hs_iload_n dX6_pathObject_9 1 rfl ?_
    obtain ⟨r3, h3, h⟩ := hb_bind h
    refine hs_iald dX6_pathObject_10 h3 ?_
    refine hs_icmp_le (tgt := 16) dX6_pathObject_11 (by decide) (fun hc4 => ?_) (fun hc4 => ?_)
    · rw [if_pos hc4] at h
      refine hs_iload_n dX6_pathObject_16 1 rfl ?_
      refine hs_istore_n (lv' := [(3, .int x1), (0, .ref x0), (1, .int x1), (2, .int x2)]) dX6_pathObject_17 (by decide) rfl ?_
      refine hs_aload_n dX6_pathObject_18 1 rfl ?_
      obtain ⟨r5, h5, h⟩ := hb_bind h
      refine hs_getR dX6_pathObject_19 lkX6_15 rfl h5 ?_
      refine hs_iload_n dX6_pathObject_22 2 rfl ?_
      obtain ⟨r6, h6, h⟩ := hb_bind h
      refine hs_iald dX6_pathObject_23 h6 ?_
      refine hs_istore (lv' := [(4, .int r6), (3, .int x1), (0, .ref x0), (1, .int x1), (2, .int x2)]) dX6_pathObject_24 (by decide) rfl ?_
      refine hs_sub (lv' := [(0, .ref x0), (2, .int x2), (3, .int x1), (4, .int r6)]) [2, 4, 1, 0] rfl ?_
      exact c_X6_pathObject_b26 hb_FU _ _ _ _ _ _ h
    · rw [if_neg hc4] at h
      refine hs_iconst (v := (-1 : Int32)) dX6_pathObject_14 (by decide) ?_
      obtain rfl := Option.some.inj h
      exact hs_ireturn dX6_pathObject_15 rfl (by rfl) (fun _ => rfl)
def mX7_init : hb_Y := (yX7_init, cX7_init, 1, none, [], false)
set_option maxHeartbeats 4000000 in
set_option maxRecDepth 20000 in
theorem c_X7_init {G : hb_G} {l : Launch} {x0 : Nat} {σ : hb_M} {r : hb_M} (h : f_X7_init x0 σ = some r) : hb_Call G l false 0 1 100 mX7_init [.ref x0] σ (.inl none, r) := by
  refine hb_met (by decide) (Nat.le_of_ble_eq_true rfl) ?_
  unfold f_X7_init at h
  refine hs_aload_n dX7_init_0 0 rfl ?_
  refine hs_objInit dX7_init_1 wd_206 hb_oi1 hb_oi2 (Nat.le_of_ble_eq_true rfl) ?_
  refine hs_aload_n dX7_init_4 0 rfl ?_
  refine hs_bipush (v := (100 : Int32)) dX7_init_5 (by decide) ?_
  obtain ⟨r1, h1, h⟩ := hb_bind h
  refine hs_newI (rc := 0) (rs := 0) (k := 100) dX7_init_7 wd_96 h1 (by decide) ?_
  obtain ⟨r2, h2, h⟩ := hb_bind h
  refine hs_putR dX7_init_9 lpX7_init_9 rfl h2 ?_
  obtain rfl := Option.some.inj h
  exact hs_return dX7_init_12 rfl (fun _ => rfl)
def mX7_add : hb_Y := (yX7_add, cX7_add, 2, none, [], false)
set_option maxHeartbeats 4000000 in
set_option maxRecDepth 20000 in
theorem c_X7_add {G : hb_G} {l : Launch} {z : Bool} {x0 : Nat} {x1 : Int32} {σ : hb_M} {r : hb_M} (h : f_X7_add x0 x1 σ = some r) : hb_Call G l z 0 0 0 mX7_add [.ref x0, .int x1] σ (.inl none, r) := by
  refine hb_met (by decide) (Nat.le_of_ble_eq_true rfl) ?_
  unfold f_X7_add at h
  refine hs_aload_n dX7_add_0 0 rfl ?_
  obtain ⟨r1, h1, h⟩ := hb_bind h
  refine hs_getI dX7_add_1 lkX7_15 rfl h1 ?_
  refine hs_bipush (v := (100 : Int32)) dX7_add_4 (by decide) ?_
  refine hs_icmp_ge (tgt := 29) dX7_add_6 (by decide) (fun hc2 => ?_) (fun hc2 => ?_)
  · rw [if_pos hc2] at h
    obtain rfl := Option.some.inj h
    exact hs_return dX7_add_29 rfl (fun _ => rfl)
  · rw [if_neg hc2] at h
    refine hs_aload_n dX7_add_9 0 rfl ?_
    obtain ⟨r3, h3, h⟩ := hb_bind h
    refine hs_getR dX7_add_10 lkX7_9 rfl h3 ?_
    refine hs_aload_n dX7_add_13 0 rfl ?_
    obtain ⟨r4, h4, h⟩ := hb_bind h
    refine hs_getI dX7_add_14 lkX7_15 rfl h4 ?_
    refine hs_iload_n dX7_add_17 1 rfl ?_
    obtain ⟨r5, h5, h⟩ := hb_bind h
    refine hs_iast dX7_add_18 h5 ?_
    refine hs_aload_n dX7_add_19 0 rfl ?_
    refine hs_dup dX7_add_20 rfl ?_
    obtain ⟨r6, h6, h⟩ := hb_bind h
    refine hs_getI dX7_add_21 lkX7_15 rfl h6 ?_
    refine hs_iconst (v := (1 : Int32)) dX7_add_24 (by decide) ?_
    refine hs_iadd dX7_add_25 ?_
    obtain ⟨r7, h7, h⟩ := hb_bind h
    refine hs_putI dX7_add_26 lpX7_add_15 rfl h7 ?_
    obtain rfl := Option.some.inj h
    exact hs_return dX7_add_29 rfl (fun _ => rfl)
def mX7_begin : hb_Y := (yX7_begin, cX7_begin, 1, none, [], false)
set_option maxHeartbeats 4000000 in
set_option maxRecDepth 20000 in
theorem c_X7_begin {G : hb_G} {l : Launch} {z : Bool} {x0 : Nat} {σ : hb_M} {r : hb_M} (h : f_X7_begin x0 σ = some r) : hb_Call G l z 0 0 0 mX7_begin [.ref x0] σ (.inl none, r) := by
  refine hb_met (by decide) (Nat.le_of_ble_eq_true rfl) ?_
  unfold f_X7_begin at h
  refine hs_aload_n dX7_begin_0 0 rfl ?_
  refine hs_iconst (v := (0 : Int32)) dX7_begin_1 (by decide) ?_
  obtain ⟨r1, h1, h⟩ := hb_bind h
  refine hs_putI dX7_begin_2 lpX7_begin_19 rfl h1 ?_
  refine hs_aload_n dX7_begin_5 0 rfl ?_
  refine hs_iconst (v := (0 : Int32)) dX7_begin_6 (by decide) ?_
  obtain ⟨r2, h2, h⟩ := hb_bind h
  refine hs_putZ dX7_begin_7 lpX7_begin_22 rfl h2 ?_
  obtain rfl := Option.some.inj h
  exact hs_return dX7_begin_10 rfl (fun _ => rfl)
def mX7_fail : hb_Y := (yX7_fail, cX7_fail, 1, none, [], false)
theorem okX7_fail : hb_okV mX7_fail 0 := ⟨⟨hb_w 7 (by decide +kernel) (by decide +kernel), hb_w 510 (by decide +kernel) (by decide +kernel), ⟨by decide +kernel, by decide +kernel, by decide +kernel⟩, by decide⟩, hb_w 508 (by decide +kernel) (by decide +kernel), hb_w 509 (by decide +kernel) (by decide +kernel)⟩
set_option maxHeartbeats 4000000 in
set_option maxRecDepth 20000 in
theorem c_X7_fail {G : hb_G} {l : Launch} {z : Bool} {x0 : Nat} {σ : hb_M} {r : hb_M} (h : f_X7_fail x0 σ = some r) : hb_Call G l z 0 0 0 mX7_fail [.ref x0] σ (.inl none, r) := by
  refine hb_met (by decide) (Nat.le_of_ble_eq_true rfl) ?_
  unfold f_X7_fail at h
  refine hs_aload_n dX7_fail_0 0 rfl ?_
  refine hs_iconst (v := (1 : Int32)) dX7_fail_1 (by decide) ?_
  obtain ⟨r1, h1, h⟩ := hb_bind h
  refine hs_putZ dX7_fail_2 lpX7_fail_22 rfl h1 ?_
  obtain rfl := Option.some.inj h
  exact hs_return dX7_fail_5 rfl (fun _ => rfl)
def mX7_atEnd : hb_Y := (yX7_atEnd, cX7_atEnd, 1, (some .boolean), [], false)
set_option maxHeartbeats 4000000 in
set_option maxRecDepth 20000 in
theorem c_X7_atEnd {G : hb_G} {l : Launch} {z : Bool} {x0 : Nat} {σ : hb_M} {r : (Int32 × hb_M)} (h : f_X7_atEnd x0 σ = some r) : hb_Call G l z 0 0 0 mX7_atEnd [.ref x0] σ (.inl (some (.int r.1)), r.2) := by
  refine hb_met (by decide) (Nat.le_of_ble_eq_true rfl) ?_
  unfold f_X7_atEnd at h
  refine hs_aload_n dX7_atEnd_0 0 rfl ?_
  obtain ⟨r1, h1, h⟩ := hb_bind h
  refine hs_getI dX7_atEnd_1 lkX7_19 rfl h1 ?_
  refine hs_aload_n dX7_atEnd_4 0 rfl ?_
  obtain ⟨r2, h2, h⟩ := hb_bind h
  refine hs_getI dX7_atEnd_5 lkX7_15 rfl h2 ?_
  refine hs_icmp_lt (tgt := 15) dX7_atEnd_8 (by decide) (fun hc3 => ?_) (fun hc3 => ?_)
  · rw [if_pos hc3] at h
    refine hs_iconst (v := (0 : Int32)) dX7_atEnd_15 (by decide) ?_
    obtain rfl := Option.some.inj h
    exact hs_ireturn dX7_atEnd_16 rfl (by decide) (fun _ => rfl)
  · rw [if_neg hc3] at h
    refine hs_iconst (v := (1 : Int32)) dX7_atEnd_11 (by decide) ?_
    refine hs_goto (tgt := 16) dX7_atEnd_12 (by decide) ?_
    obtain rfl := Option.some.inj h
    exact hs_ireturn dX7_atEnd_16 rfl (by decide) (fun _ => rfl)
def mX7_next : hb_Y := (yX7_next, cX7_next, 1, (some .int), [], false)
theorem okX7_next : hb_okV mX7_next 0 := ⟨⟨hb_w 7 (by decide +kernel) (by decide +kernel), hb_w 501 (by decide +kernel) (by decide +kernel), ⟨by decide +kernel, by decide +kernel, by decide +kernel⟩, by decide⟩, hb_w 499 (by decide +kernel) (by decide +kernel), hb_w 500 (by decide +kernel) (by decide +kernel)⟩
set_option maxHeartbeats 4000000 in
set_option maxRecDepth 20000 in
theorem c_X7_next {G : hb_G} {l : Launch} {z : Bool} {x0 : Nat} {σ : hb_M} {r : (Int32 × hb_M)} (h : f_X7_next x0 σ = some r) : hb_Call G l z 0 0 0 mX7_next [.ref x0] σ (.inl (some (.int r.1)), r.2) := by
  refine hb_met (by decide) (Nat.le_of_ble_eq_true rfl) ?_
  unfold f_X7_next at h
  refine hs_aload_n dX7_next_0 0 rfl ?_
  obtain ⟨r1, h1, h⟩ := hb_bind h
  refine hs_getI dX7_next_1 lkX7_22 rfl h1 ?_
  refine hs_if_ne (tgt := 25) dX7_next_4 (by decide) (fun hc2 => ?_) (fun hc2 => ?_)
  · rw [if_neg hc2] at h
    refine hs_iconst (v := (-1 : Int32)) dX7_next_25 (by decide) ?_
    refine hs_goto (tgt := 38) dX7_next_26 (by decide) ?_
    obtain rfl := Option.some.inj h
    exact hs_ireturn dX7_next_38 rfl (by rfl) (fun _ => rfl)
  · rw [if_pos hc2] at h
    refine hs_aload_n dX7_next_7 0 rfl ?_
    obtain ⟨r3, h3, h⟩ := hb_bind h
    refine hs_getI dX7_next_8 lkX7_19 rfl h3 ?_
    refine hs_if_lt (tgt := 25) dX7_next_11 (by decide) (fun hc4 => ?_) (fun hc4 => ?_)
    · rw [if_pos hc4] at h
      refine hs_iconst (v := (-1 : Int32)) dX7_next_25 (by decide) ?_
      refine hs_goto (tgt := 38) dX7_next_26 (by decide) ?_
      obtain rfl := Option.some.inj h
      exact hs_ireturn dX7_next_38 rfl (by rfl) (fun _ => rfl)
    · rw [if_neg hc4] at h
      refine hs_aload_n dX7_next_14 0 rfl ?_
      obtain ⟨r5, h5, h⟩ := hb_bind h
      refine hs_getI dX7_next_15 lkX7_19 rfl h5 ?_
      refine hs_aload_n dX7_next_18 0 rfl ?_
      obtain ⟨r6, h6, h⟩ := hb_bind h
      refine hs_getI dX7_next_19 lkX7_15 rfl h6 ?_
      refine hs_icmp_lt (tgt := 29) dX7_next_22 (by decide) (fun hc7 => ?_) (fun hc7 => ?_)
      · rw [if_pos hc7] at h
        refine hs_aload_n dX7_next_29 0 rfl ?_
        obtain ⟨r8, h8, h⟩ := hb_bind h
        refine hs_getR dX7_next_30 lkX7_9 rfl h8 ?_
        refine hs_aload_n dX7_next_33 0 rfl ?_
        obtain ⟨r9, h9, h⟩ := hb_bind h
        refine hs_getI dX7_next_34 lkX7_19 rfl h9 ?_
        obtain ⟨r10, h10, h⟩ := hb_bind h
        refine hs_iald dX7_next_37 h10 ?_
        obtain rfl := Option.some.inj h
        exact hs_ireturn dX7_next_38 rfl (by rfl) (fun _ => rfl)
      · rw [if_neg hc7] at h
        refine hs_iconst (v := (-1 : Int32)) dX7_next_25 (by decide) ?_
        refine hs_goto (tgt := 38) dX7_next_26 (by decide) ?_
        obtain rfl := Option.some.inj h
        exact hs_ireturn dX7_next_38 rfl (by rfl) (fun _ => rfl)
def mX7_skip : hb_Y := (yX7_skip, cX7_skip, 2, (some .boolean), [], false)
theorem okX7_skip : hb_okV mX7_skip 1 := ⟨⟨hb_w 7 (by decide +kernel) (by decide +kernel), hb_w 497 (by decide +kernel) (by decide +kernel), ⟨by decide +kernel, by decide +kernel, by decide +kernel⟩, by decide⟩, hb_w 495 (by decide +kernel) (by decide +kernel), hb_w 496 (by decide +kernel) (by decide +kernel)⟩
set_option maxHeartbeats 4000000 in
set_option maxRecDepth 20000 in
theorem c_X7_skip {G : hb_G} {l : Launch} {z : Bool} {x0 : Nat} {x1 : Int32} {σ : hb_M} {r : (Int32 × hb_M)} (h : f_X7_skip x0 x1 σ = some r) : hb_Call G l z 1 0 0 mX7_skip [.ref x0, .int x1] σ (.inl (some (.int r.1)), r.2) := by
  refine hb_met (by decide) (Nat.le_of_ble_eq_true rfl) ?_
  unfold f_X7_skip at h
  refine hs_aload_n dX7_skip_0 0 rfl ?_
  obtain ⟨r1, h1, h⟩ := hb_bind h
  obtain ⟨h1, nf1, hb1⟩ := hb_on_at h1
  refine hs_callVi (μ' := mX7_next) (mc := 0) (ms := 0) (rc := 0) (rs := 0) (As := []) (rest := []) (ci := 7) dX7_skip_1 lmX7_26 okX7_next rfl (by decide) rfl (Nat.le_of_ble_eq_true rfl) rfl hb1 (c_X7_next h1) ?_
  refine hs_iload_n dX7_skip_4 1 rfl ?_
  refine hs_icmp_eq (tgt := 10) dX7_skip_5 (by decide) (fun hc2 => ?_) (fun hc2 => ?_)
  · rw [if_pos hc2] at h
    refine hs_aload_n dX7_skip_10 0 rfl ?_
    refine hs_dup dX7_skip_11 rfl ?_
    obtain ⟨r3, h3, h⟩ := hb_bind h
    refine hs_getI dX7_skip_12 lkX7_19 rfl h3 ?_
    refine hs_iconst (v := (1 : Int32)) dX7_skip_15 (by decide) ?_
    refine hs_iadd dX7_skip_16 ?_
    obtain ⟨r4, h4, h⟩ := hb_bind h
    refine hs_putI dX7_skip_17 lpX7_skip_19 rfl h4 ?_
    refine hs_iconst (v := (1 : Int32)) dX7_skip_20 (by decide) ?_
    obtain rfl := Option.some.inj h
    exact hs_ireturn dX7_skip_21 rfl (by decide) (fun _ => rfl)
  · rw [if_neg hc2] at h
    refine hs_iconst (v := (0 : Int32)) dX7_skip_8 (by decide) ?_
    obtain rfl := Option.some.inj h
    exact hs_ireturn dX7_skip_9 rfl (by decide) (fun _ => rfl)
def mX7_expect : hb_Y := (yX7_expect, cX7_expect, 2, none, [], false)
set_option maxHeartbeats 4000000 in
set_option maxRecDepth 20000 in
theorem c_X7_expect {G : hb_G} {l : Launch} {z : Bool} {x0 : Nat} {x1 : Int32} {σ : hb_M} {r : hb_M} (h : f_X7_expect x0 x1 σ = some r) : hb_Call G l z 2 0 0 mX7_expect [.ref x0, .int x1] σ (.inl none, r) := by
  refine hb_met (by decide) (Nat.le_of_ble_eq_true rfl) ?_
  unfold f_X7_expect at h
  refine hs_aload_n dX7_expect_0 0 rfl ?_
  refine hs_iload_n dX7_expect_1 1 rfl ?_
  obtain ⟨r1, h1, h⟩ := hb_bind h
  obtain ⟨h1, nf1, hb1⟩ := hb_on_at h1
  refine hs_callVi (μ' := mX7_skip) (mc := 0) (ms := 0) (rc := 0) (rs := 0) (As := [.int x1]) (rest := []) (ci := 7) dX7_expect_2 lmX7_30 okX7_skip rfl (by decide) rfl (Nat.le_of_ble_eq_true rfl) rfl hb1 (c_X7_skip h1) ?_
  refine hs_if_ne (tgt := 12) dX7_expect_5 (by decide) (fun hc2 => ?_) (fun hc2 => ?_)
  · rw [if_neg hc2] at h
    obtain rfl := Option.some.inj h
    exact hs_return dX7_expect_12 rfl (fun _ => rfl)
  · rw [if_pos hc2] at h
    refine hs_aload_n dX7_expect_8 0 rfl ?_
    obtain ⟨r3, h3, h⟩ := hb_bind h
    obtain ⟨h3, nf3, hb3⟩ := hb_on_at h3
    refine hs_callVv (μ' := mX7_fail) (mc := 0) (ms := 0) (rc := 0) (rs := 0) (As := []) (rest := []) (ci := 7) dX7_expect_9 lmX7_34 okX7_fail rfl (by decide) rfl (Nat.le_of_ble_eq_true rfl) rfl hb3 (c_X7_fail h3) ?_
    obtain rfl := Option.some.inj h
    exact hs_return dX7_expect_12 rfl (fun _ => rfl)
def mJ0_isLatin1_aae02 : hb_Y := (yJ0_isLatin1_aae02, cJ0_isLatin1_aae02, 1, (some .boolean), [], false)
theorem okJ0_isLatin1_aae02 : hb_okV mJ0_isLatin1_aae02 0 := ⟨⟨hb_w 24 (by decide +kernel) (by decide +kernel), hb_w 552 (by decide +kernel) (by decide +kernel), ⟨by decide +kernel, by decide +kernel, by decide +kernel⟩, by decide⟩, hb_w 550 (by decide +kernel) (by decide +kernel), hb_w 551 (by decide +kernel) (by decide +kernel)⟩
set_option maxHeartbeats 4000000 in
set_option maxRecDepth 20000 in
theorem c_J0_isLatin1_aae02 {G : hb_G} {l : Launch} {z : Bool} {x0 : Nat} {σ : hb_M} {r : (Int32 × hb_M)} (h : f_J0_isLatin1_aae02 x0 σ = some r) : hb_Call G l z 0 0 0 mJ0_isLatin1_aae02 [.retAddr x0] σ (.inl (some (.int r.1)), r.2) := by
  refine hb_met (by decide) (Nat.le_of_ble_eq_true rfl) ?_
  unfold f_J0_isLatin1_aae02 at h
  refine hs_compact dJ0_isLatin1_aae02_0 wd_553 ?_
  refine hs_if_eq (tgt := 17) dJ0_isLatin1_aae02_3 (by decide) (fun hc1 => ?_) (fun hc1 => ?_)
  · rw [if_pos hc1] at h
    refine hs_iconst (v := (0 : Int32)) dJ0_isLatin1_aae02_17 (by decide) ?_
    obtain rfl := Option.some.inj h
    exact hs_ireturn dJ0_isLatin1_aae02_18 rfl (by decide) (fun _ => rfl)
  · rw [if_neg hc1] at h
    refine hs_sload_n dJ0_isLatin1_aae02_6 0 rfl ?_
    obtain ⟨r2, h2, h⟩ := hb_bind h
    refine hs_ssc dJ0_isLatin1_aae02_7 wd_1882 h2 ?_
    refine hs_if_ne (tgt := 17) dJ0_isLatin1_aae02_10 (by decide) (fun hc3 => ?_) (fun hc3 => ?_)
    · rw [if_neg hc3] at h
      refine hs_iconst (v := (0 : Int32)) dJ0_isLatin1_aae02_17 (by decide) ?_
      obtain rfl := Option.some.inj h
      exact hs_ireturn dJ0_isLatin1_aae02_18 rfl (by decide) (fun _ => rfl)
    · rw [if_pos hc3] at h
      refine hs_iconst (v := (1 : Int32)) dJ0_isLatin1_aae02_13 (by decide) ?_
      refine hs_goto (tgt := 18) dJ0_isLatin1_aae02_14 (by decide) ?_
      obtain rfl := Option.some.inj h
      exact hs_ireturn dJ0_isLatin1_aae02_18 rfl (by decide) (fun _ => rfl)
def mJ0_coder_7d493 : hb_Y := (yJ0_coder_7d493, cJ0_coder_7d493, 1, (some .byte), [], false)
theorem okJ0_coder_7d493 : hb_okV mJ0_coder_7d493 0 := ⟨⟨hb_w 24 (by decide +kernel) (by decide +kernel), hb_w 562 (by decide +kernel) (by decide +kernel), ⟨by decide +kernel, by decide +kernel, by decide +kernel⟩, by decide⟩, hb_w 560 (by decide +kernel) (by decide +kernel), hb_w 561 (by decide +kernel) (by decide +kernel)⟩
set_option maxHeartbeats 4000000 in
set_option maxRecDepth 20000 in
theorem c_J0_coder_7d493 {G : hb_G} {l : Launch} {z : Bool} {x0 : Nat} {σ : hb_M} {r : (Int32 × hb_M)} (h : f_J0_coder_7d493 x0 σ = some r) : hb_Call G l z 0 0 0 mJ0_coder_7d493 [.retAddr x0] σ (.inl (some (.int r.1)), r.2) := by
  refine hb_met (by decide) (Nat.le_of_ble_eq_true rfl) ?_
  unfold f_J0_coder_7d493 at h
  refine hs_compact dJ0_coder_7d493_0 wd_553 ?_
  refine hs_if_eq (tgt := 13) dJ0_coder_7d493_3 (by decide) (fun hc1 => ?_) (fun hc1 => ?_)
  · rw [if_pos hc1] at h
    refine hs_iconst (v := (1 : Int32)) dJ0_coder_7d493_13 (by decide) ?_
    obtain rfl := Option.some.inj h
    exact hs_ireturn dJ0_coder_7d493_14 rfl (by decide) (fun _ => rfl)
  · rw [if_neg hc1] at h
    refine hs_sload_n dJ0_coder_7d493_6 0 rfl ?_
    obtain ⟨r2, h2, h⟩ := hb_bind h
    refine hs_ssc dJ0_coder_7d493_7 wd_1882 h2 ?_
    refine hs_goto (tgt := 14) dJ0_coder_7d493_10 (by decide) ?_
    by_cases hc3 : r2 = 0
    · rw [if_pos hc3] at h
      obtain rfl := Option.some.inj h
      exact hs_ireturn dJ0_coder_7d493_14 rfl (by rw [hc3]; decide) (fun _ => rfl)
    · rw [if_neg hc3] at h
      cases h
def mJ0_length_8abf5 : hb_Y := (yJ0_length_8abf5, cJ0_length_8abf5, 1, (some .int), [], false)
theorem okJ0_length_8abf5 : hb_okV mJ0_length_8abf5 0 := ⟨⟨hb_w 24 (by decide +kernel) (by decide +kernel), hb_w 558 (by decide +kernel) (by decide +kernel), ⟨by decide +kernel, by decide +kernel, by decide +kernel⟩, by decide⟩, hb_w 556 (by decide +kernel) (by decide +kernel), hb_w 557 (by decide +kernel) (by decide +kernel)⟩
set_option maxHeartbeats 4000000 in
set_option maxRecDepth 20000 in
theorem c_J0_length_8abf5 {G : hb_G} {l : Launch} {z : Bool} {x0 : Nat} {σ : hb_M} {r : (Int32 × hb_M)} (h : f_J0_length_8abf5 x0 σ = some r) : hb_Call G l z 1 0 0 mJ0_length_8abf5 [.retAddr x0] σ (.inl (some (.int r.1)), r.2) := by
  refine hb_met (by decide) (Nat.le_of_ble_eq_true rfl) ?_
  unfold f_J0_length_8abf5 at h
  refine hs_sload_n dJ0_length_8abf5_0 0 rfl ?_
  obtain ⟨r1, h1, h⟩ := hb_bind h
  refine hs_ssv dJ0_length_8abf5_1 wd_1883 h1 ?_
  obtain ⟨r2, h2, h⟩ := hb_bind h
  refine hs_ssl dJ0_length_8abf5_4 h2 ?_
  refine hs_sload_n dJ0_length_8abf5_5 0 rfl ?_
  obtain ⟨r3, h3, h⟩ := hb_bind h
  obtain ⟨h3, hb3⟩ := hb_son_at h3
  refine hs_callVSi (μ' := mJ0_coder_7d493) (mc := 0) (ms := 0) (rc := 0) (rs := 0) (As := []) (rest := [.int r2]) dJ0_length_8abf5_6 lmJ0_335 okJ0_coder_7d493 rfl rfl (by decide) rfl (Nat.le_of_ble_eq_true rfl) hb3 (c_J0_coder_7d493 h3) ?_
  refine hs_ishr dJ0_length_8abf5_9 ?_
  obtain rfl := Option.some.inj h
  exact hs_ireturn dJ0_length_8abf5_10 rfl (by rfl) (fun _ => rfl)
def mJ1_canEncode_9a6ad : hb_Y := (yJ1_canEncode_9a6ad, cJ1_canEncode_9a6ad, 1, (some .boolean), [], false)
theorem okJ1_canEncode_9a6ad : hb_okS mJ1_canEncode_9a6ad 1 := ⟨⟨hb_w 25 (by decide +kernel) (by decide +kernel), hb_w 568 (by decide +kernel) (by decide +kernel), ⟨by decide +kernel, by decide +kernel, by decide +kernel⟩, by decide⟩, hb_w 567 (by decide +kernel) (by decide +kernel)⟩
set_option maxHeartbeats 4000000 in
set_option maxRecDepth 20000 in
theorem c_J1_canEncode_9a6ad {G : hb_G} {l : Launch} {z : Bool} {x0 : Int32} {σ : hb_M} {r : (Int32 × hb_M)} (h : f_J1_canEncode_9a6ad x0 σ = some r) : hb_Call G l z 0 0 0 mJ1_canEncode_9a6ad [.int x0] σ (.inl (some (.int r.1)), r.2) := by
  refine hb_met (by decide) (Nat.le_of_ble_eq_true rfl) ?_
  unfold f_J1_canEncode_9a6ad at h
  refine hs_iload_n dJ1_canEncode_9a6ad_0 0 rfl ?_
  refine hs_if_lt (tgt := 15) dJ1_canEncode_9a6ad_1 (by decide) (fun hc1 => ?_) (fun hc1 => ?_)
  · rw [if_pos hc1] at h
    refine hs_iconst (v := (0 : Int32)) dJ1_canEncode_9a6ad_15 (by decide) ?_
    obtain rfl := Option.some.inj h
    exact hs_ireturn dJ1_canEncode_9a6ad_16 rfl (by decide) (fun _ => rfl)
  · rw [if_neg hc1] at h
    refine hs_iload_n dJ1_canEncode_9a6ad_4 0 rfl ?_
    refine hs_sipush (v := (255 : Int32)) dJ1_canEncode_9a6ad_5 (by decide) ?_
    refine hs_icmp_gt (tgt := 15) dJ1_canEncode_9a6ad_8 (by decide) (fun hc2 => ?_) (fun hc2 => ?_)
    · rw [if_pos hc2] at h
      refine hs_iconst (v := (0 : Int32)) dJ1_canEncode_9a6ad_15 (by decide) ?_
      obtain rfl := Option.some.inj h
      exact hs_ireturn dJ1_canEncode_9a6ad_16 rfl (by decide) (fun _ => rfl)
    · rw [if_neg hc2] at h
      refine hs_iconst (v := (1 : Int32)) dJ1_canEncode_9a6ad_11 (by decide) ?_
      refine hs_goto (tgt := 16) dJ1_canEncode_9a6ad_12 (by decide) ?_
      obtain rfl := Option.some.inj h
      exact hs_ireturn dJ1_canEncode_9a6ad_16 rfl (by decide) (fun _ => rfl)
def mJ1_indexOfChar_4cfef : hb_Y := (yJ1_indexOfChar_4cfef, cJ1_indexOfChar_4cfef, 6, (some .int), [], false)
theorem okJ1_indexOfChar_4cfef : hb_okS mJ1_indexOfChar_4cfef 4 := ⟨⟨hb_w 25 (by decide +kernel) (by decide +kernel), hb_w 575 (by decide +kernel) (by decide +kernel), ⟨by decide +kernel, by decide +kernel, by decide +kernel⟩, by decide⟩, hb_w 574 (by decide +kernel) (by decide +kernel)⟩
set_option maxHeartbeats 4000000 in
set_option maxRecDepth 20000 in
theorem c_J1_indexOfChar_4cfef_b7 {G : hb_G} {l : Launch} {z : Bool} : ∀ (n : Nat) (x0 : Nat) (x3 : Int32) (x4 : Int32) (x5 : Int32) (σ : hb_M) (r : (Int32 × hb_M)), f_J1_indexOfChar_4cfef_b7 n x0 x3 x4 x5 σ = some r → hb_T G l z mJ1_indexOfChar_4cfef 0 0 0 7 [(0, .retAddr x0), (3, .int x3), (4, .int x4), (5, .int x5)] [] σ (.inl (some (.int r.1)), r.2) := by
  intro n
  induction n with
  | zero =>
    intro x0 x3 x4 x5 σ r h
    cases h
  | succ n ih =>
    intro x0 x3 x4 x5 σ r h
    rw [f_J1_indexOfChar_4cfef_b7] at h
    refine hs_iload dJ1_indexOfChar_4cfef_7 3 rfl ?_
    refine hs_iload_n dJ1_indexOfChar_4cfef_9 1 rfl ?_
    refine hs_icmp_ge (tgt := 31) dJ1_indexOfChar_4cfef_10 (by decide) (fun hc1 => ?_) (fun hc1 => ?_)
    · rw [if_pos hc1] at h
      refine hs_iconst (v := (-1 : Int32)) dJ1_indexOfChar_4cfef_31 (by decide) ?_
      obtain rfl := Option.some.inj h
      exact hs_ireturn dJ1_indexOfChar_4cfef_32 rfl (by rfl) (fun _ => rfl)
    · rw [if_neg hc1] at h
      refine hs_sload_n dJ1_indexOfChar_4cfef_13 0 rfl ?_
      refine hs_iload dJ1_indexOfChar_4cfef_14 3 rfl ?_
      obtain ⟨r2, h2, h⟩ := hb_bind h
      refine hs_ssb dJ1_indexOfChar_4cfef_16 h2 ?_
      refine hs_iload dJ1_indexOfChar_4cfef_17 2 rfl ?_
      refine hs_icmp_ne (tgt := 25) dJ1_indexOfChar_4cfef_19 (by decide) (fun hc3 => ?_) (fun hc3 => ?_)
      · rw [if_neg hc3] at h
        refine hs_iinc2 (k := (1 : Int32)) (lv' := [(5, .int (x5 + (1 : Int32))), (0, .retAddr x0), (3, .int x3), (4, .int x4)]) dJ1_indexOfChar_4cfef_25 (by decide) 3 rfl (by decide) rfl ?_
        refine hs_goto (tgt := 7) dJ1_indexOfChar_4cfef_28 (by decide) ?_
        refine hs_sub (lv' := [(0, .retAddr x0), (3, .int x3), (4, .int x4), (5, .int (x5 + (1 : Int32)))]) [1, 2, 3, 0] rfl ?_
        exact ih _ _ _ _ _ _ h
      · rw [if_pos hc3] at h
        refine hs_iload dJ1_indexOfChar_4cfef_22 3 rfl ?_
        obtain rfl := Option.some.inj h
        exact hs_ireturn dJ1_indexOfChar_4cfef_24 rfl (by rfl) (fun _ => rfl)
set_option maxHeartbeats 4000000 in
set_option maxRecDepth 20000 in
theorem c_J1_indexOfChar_4cfef {G : hb_G} {l : Launch} {z : Bool} {x0 : Nat} {x1 : Int32} {x2 : Int32} {x3 : Int32} {σ : hb_M} {r : (Int32 × hb_M)} (h : f_J1_indexOfChar_4cfef x0 x1 x2 x3 σ = some r) : hb_Call G l z 0 0 0 mJ1_indexOfChar_4cfef [.retAddr x0, .int x1, .int x2, .int x3] σ (.inl (some (.int r.1)), r.2) := by
  refine hb_met (by decide) (Nat.le_of_ble_eq_true rfl) ?_
  unfold f_J1_indexOfChar_4cfef at h
  refine hs_iload_n dJ1_indexOfChar_4cfef_0 1 rfl ?_
  refine hs_i2b dJ1_indexOfChar_4cfef_1 ?_
  refine hs_istore (lv' := [(4, .int x1.toInt8.toInt32), (0, .retAddr x0), (1, .int x1), (2, .int x2), (3, .int x3)]) dJ1_indexOfChar_4cfef_2 (by decide) rfl ?_
  refine hs_iload_n dJ1_indexOfChar_4cfef_4 3 rfl ?_
  refine hs_istore (lv' := [(5, .int x2), (4, .int x1.toInt8.toInt32), (0, .retAddr x0), (1, .int x1), (2, .int x2), (3, .int x3)]) dJ1_indexOfChar_4cfef_5 (by decide) rfl ?_
  refine hs_sub (lv' := [(0, .retAddr x0), (3, .int x3), (4, .int x1.toInt8.toInt32), (5, .int x2)]) [2, 5, 1, 0] rfl ?_
  exact c_J1_indexOfChar_4cfef_b7 hb_FU _ _ _ _ _ _ h
def mJ1_indexOf_4cfef : hb_Y := (yJ1_indexOf_4cfef, cJ1_indexOf_4cfef, 4, (some .int), [], false)
theorem okJ1_indexOf_4cfef : hb_okS mJ1_indexOf_4cfef 4 := ⟨⟨hb_w 25 (by decide +kernel) (by decide +kernel), hb_w 565 (by decide +kernel) (by decide +kernel), ⟨by decide +kernel, by decide +kernel, by decide +kernel⟩, by decide⟩, hb_w 564 (by decide +kernel) (by decide +kernel)⟩
set_option maxHeartbeats 4000000 in
set_option maxRecDepth 20000 in
theorem c_J1_indexOf_4cfef {G : hb_G} {l : Launch} {z : Bool} {x0 : Nat} {x1 : Int32} {x2 : Int32} {x3 : Int32} {σ : hb_M} {r : (Int32 × hb_M)} (h : f_J1_indexOf_4cfef x0 x1 x2 x3 σ = some r) : hb_Call G l z 1 0 0 mJ1_indexOf_4cfef [.retAddr x0, .int x1, .int x2, .int x3] σ (.inl (some (.int r.1)), r.2) := by
  refine hb_met (by decide) (Nat.le_of_ble_eq_true rfl) ?_
  unfold f_J1_indexOf_4cfef at h
  refine hs_iload_n dJ1_indexOf_4cfef_0 1 rfl ?_
  obtain ⟨r1, h1, h⟩ := hb_bind h
  refine hs_callSi (μ' := mJ1_canEncode_9a6ad) (mc := 0) (ms := 0) (rc := 0) (rs := 0) (As := [.int x1]) (rest := []) dJ1_indexOf_4cfef_1 lmJ1_88 okJ1_canEncode_9a6ad rfl (by decide) rfl (Nat.le_of_ble_eq_true rfl) (c_J1_canEncode_9a6ad h1) ?_
  refine hs_if_ne (tgt := 9) dJ1_indexOf_4cfef_4 (by decide) (fun hc2 => ?_) (fun hc2 => ?_)
  · rw [if_neg hc2] at h
    refine hs_iload_n dJ1_indexOf_4cfef_9 2 rfl ?_
    refine hs_iconst (v := (0 : Int32)) dJ1_indexOf_4cfef_10 (by decide) ?_
    refine hs_mmax dJ1_indexOf_4cfef_11 wd_569 hb_mmax1 hb_m0 hb_mmax2 (Nat.le_of_ble_eq_true rfl) ?_
    refine hs_istore_n (lv' := [(2, .int (if x2 < (0 : Int32) then (0 : Int32) else x2)), (0, .retAddr x0), (1, .int x1), (3, .int x3)]) dJ1_indexOf_4cfef_14 (by decide) rfl ?_
    refine hs_iload_n dJ1_indexOf_4cfef_15 3 rfl ?_
    refine hs_sload_n dJ1_indexOf_4cfef_16 1 rfl ?_
    obtain ⟨r3, h3, h⟩ := hb_bind h
    refine hs_ssl dJ1_indexOf_4cfef_17 h3 ?_
    refine hs_mmin dJ1_indexOf_4cfef_18 wd_572 hb_mmin1 hb_m0 hb_mmin2 (Nat.le_of_ble_eq_true rfl) ?_
    refine hs_istore_n (lv' := [(3, .int (if r3 < x3 then r3 else x3)), (2, .int (if x2 < (0 : Int32) then (0 : Int32) else x2)), (0, .retAddr x0), (1, .int x1)]) dJ1_indexOf_4cfef_21 (by decide) rfl ?_
    refine hs_iload_n dJ1_indexOf_4cfef_22 1 rfl ?_
    refine hs_iload_n dJ1_indexOf_4cfef_23 0 rfl ?_
    refine hs_icmp_lt (tgt := 29) dJ1_indexOf_4cfef_24 (by decide) (fun hc4 => ?_) (fun hc4 => ?_)
    · rw [if_pos hc4] at h
      refine hs_sload_n dJ1_indexOf_4cfef_29 2 rfl ?_
      refine hs_iload_n dJ1_indexOf_4cfef_30 3 rfl ?_
      refine hs_iload_n dJ1_indexOf_4cfef_31 1 rfl ?_
      refine hs_iload_n dJ1_indexOf_4cfef_32 0 rfl ?_
      obtain ⟨r5, h5, h⟩ := hb_bind h
      refine hs_callSi (μ' := mJ1_indexOfChar_4cfef) (mc := 0) (ms := 0) (rc := 0) (rs := 0) (As := [.retAddr x0, .int x1, .int (if x2 < (0 : Int32) then (0 : Int32) else x2), .int (if r3 < x3 then r3 else x3)]) (rest := []) dJ1_indexOf_4cfef_33 lmJ1_95 okJ1_indexOfChar_4cfef rfl (by decide) rfl (Nat.le_of_ble_eq_true rfl) (c_J1_indexOfChar_4cfef h5) ?_
      obtain rfl := Option.some.inj h
      exact hs_ireturn dJ1_indexOf_4cfef_36 rfl (by rfl) (fun _ => rfl)
    · rw [if_neg hc4] at h
      refine hs_iconst (v := (-1 : Int32)) dJ1_indexOf_4cfef_27 (by decide) ?_
      obtain rfl := Option.some.inj h
      exact hs_ireturn dJ1_indexOf_4cfef_28 rfl (by rfl) (fun _ => rfl)
  · rw [if_pos hc2] at h
    refine hs_iconst (v := (-1 : Int32)) dJ1_indexOf_4cfef_7 (by decide) ?_
    obtain rfl := Option.some.inj h
    exact hs_ireturn dJ1_indexOf_4cfef_8 rfl (by rfl) (fun _ => rfl)
def mJ0_indexOf_7cf53 : hb_Y := (yJ0_indexOf_7cf53, cJ0_indexOf_7cf53, 3, (some .int), [], false)
theorem okJ0_indexOf_7cf53 : hb_okV mJ0_indexOf_7cf53 2 := ⟨⟨hb_w 24 (by decide +kernel) (by decide +kernel), hb_w 548 (by decide +kernel) (by decide +kernel), ⟨by decide +kernel, by decide +kernel, by decide +kernel⟩, by decide⟩, hb_w 546 (by decide +kernel) (by decide +kernel), hb_w 547 (by decide +kernel) (by decide +kernel)⟩
set_option maxHeartbeats 4000000 in
set_option maxRecDepth 20000 in
theorem c_J0_indexOf_7cf53 {G : hb_G} {l : Launch} {z : Bool} {x0 : Nat} {x1 : Int32} {x2 : Int32} {σ : hb_M} {r : (Int32 × hb_M)} (h : f_J0_indexOf_7cf53 x0 x1 x2 σ = some r) : hb_Call G l z 2 0 0 mJ0_indexOf_7cf53 [.retAddr x0, .int x1, .int x2] σ (.inl (some (.int r.1)), r.2) := by
  refine hb_met (by decide) (Nat.le_of_ble_eq_true rfl) ?_
  unfold f_J0_indexOf_7cf53 at h
  refine hs_sload_n dJ0_indexOf_7cf53_0 0 rfl ?_
  obtain ⟨r1, h1, h⟩ := hb_bind h
  obtain ⟨h1, hb1⟩ := hb_son_at h1
  refine hs_callVSi (μ' := mJ0_isLatin1_aae02) (mc := 0) (ms := 0) (rc := 0) (rs := 0) (As := []) (rest := []) dJ0_indexOf_7cf53_1 lmJ0_492 okJ0_isLatin1_aae02 rfl rfl (by decide) rfl (Nat.le_of_ble_eq_true rfl) hb1 (c_J0_isLatin1_aae02 h1) ?_
  refine hs_if_eq (tgt := 23) dJ0_indexOf_7cf53_4 (by decide) (fun hc2 => ?_) (fun hc2 => ?_)
  · rw [if_pos hc2] at h
    refine hs_sload_n dJ0_indexOf_7cf53_23 0 rfl ?_
    obtain ⟨r3, h3, h⟩ := hb_bind h
    refine hs_ssv dJ0_indexOf_7cf53_24 wd_1883 h3 ?_
    refine hs_iload_n dJ0_indexOf_7cf53_27 1 rfl ?_
    refine hs_iload_n dJ0_indexOf_7cf53_28 2 rfl ?_
    refine hs_sload_n dJ0_indexOf_7cf53_29 0 rfl ?_
    obtain ⟨r4, h4, h⟩ := hb_bind h
    obtain ⟨h4, hb4⟩ := hb_son_at h4
    refine hs_callVSi (μ' := mJ0_length_8abf5) (mc := 0) (ms := 0) (rc := 0) (rs := 0) (As := []) (rest := [.int x2, .int x1, .retAddr r3]) dJ0_indexOf_7cf53_30 lmJ0_505 okJ0_length_8abf5 rfl rfl (by decide) rfl (Nat.le_of_ble_eq_true rfl) hb4 (c_J0_length_8abf5 h4) ?_
    cases h
  · rw [if_neg hc2] at h
    refine hs_sload_n dJ0_indexOf_7cf53_7 0 rfl ?_
    obtain ⟨r5, h5, h⟩ := hb_bind h
    refine hs_ssv dJ0_indexOf_7cf53_8 wd_1883 h5 ?_
    refine hs_iload_n dJ0_indexOf_7cf53_11 1 rfl ?_
    refine hs_iload_n dJ0_indexOf_7cf53_12 2 rfl ?_
    refine hs_sload_n dJ0_indexOf_7cf53_13 0 rfl ?_
    obtain ⟨r6, h6, h⟩ := hb_bind h
    obtain ⟨h6, hb6⟩ := hb_son_at h6
    refine hs_callVSi (μ' := mJ0_length_8abf5) (mc := 0) (ms := 0) (rc := 0) (rs := 0) (As := []) (rest := [.int x2, .int x1, .retAddr r5]) dJ0_indexOf_7cf53_14 lmJ0_505 okJ0_length_8abf5 rfl rfl (by decide) rfl (Nat.le_of_ble_eq_true rfl) hb6 (c_J0_length_8abf5 h6) ?_
    obtain ⟨r7, h7, h⟩ := hb_bind h
    refine hs_callSi (μ' := mJ1_indexOf_4cfef) (mc := 0) (ms := 0) (rc := 0) (rs := 0) (As := [.retAddr r5, .int x1, .int x2, .int r6.1]) (rest := []) dJ0_indexOf_7cf53_17 lmJ0_637 okJ1_indexOf_4cfef rfl (by decide) rfl (Nat.le_of_ble_eq_true rfl) (c_J1_indexOf_4cfef h7) ?_
    refine hs_goto (tgt := 36) dJ0_indexOf_7cf53_20 (by decide) ?_
    obtain rfl := Option.some.inj h
    exact hs_ireturn dJ0_indexOf_7cf53_36 rfl (by rfl) (fun _ => rfl)
def mJ0_indexOf_0f7a4 : hb_Y := (yJ0_indexOf_0f7a4, cJ0_indexOf_0f7a4, 2, (some .int), [], false)
theorem okJ0_indexOf_0f7a4 : hb_okV mJ0_indexOf_0f7a4 1 := ⟨⟨hb_w 24 (by decide +kernel) (by decide +kernel), hb_w 544 (by decide +kernel) (by decide +kernel), ⟨by decide +kernel, by decide +kernel, by decide +kernel⟩, by decide⟩, hb_w 542 (by decide +kernel) (by decide +kernel), hb_w 543 (by decide +kernel) (by decide +kernel)⟩
set_option maxHeartbeats 4000000 in
set_option maxRecDepth 20000 in
theorem c_J0_indexOf_0f7a4 {G : hb_G} {l : Launch} {z : Bool} {x0 : Nat} {x1 : Int32} {σ : hb_M} {r : (Int32 × hb_M)} (h : f_J0_indexOf_0f7a4 x0 x1 σ = some r) : hb_Call G l z 3 0 0 mJ0_indexOf_0f7a4 [.retAddr x0, .int x1] σ (.inl (some (.int r.1)), r.2) := by
  refine hb_met (by decide) (Nat.le_of_ble_eq_true rfl) ?_
  unfold f_J0_indexOf_0f7a4 at h
  refine hs_sload_n dJ0_indexOf_0f7a4_0 0 rfl ?_
  refine hs_iload_n dJ0_indexOf_0f7a4_1 1 rfl ?_
  refine hs_iconst (v := (0 : Int32)) dJ0_indexOf_0f7a4_2 (by decide) ?_
  obtain ⟨r1, h1, h⟩ := hb_bind h
  obtain ⟨h1, hb1⟩ := hb_son_at h1
  refine hs_callVSi (μ' := mJ0_indexOf_7cf53) (mc := 0) (ms := 0) (rc := 0) (rs := 0) (As := [.int x1, .int (0 : Int32)]) (rest := []) dJ0_indexOf_0f7a4_3 lmJ0_633 okJ0_indexOf_7cf53 rfl rfl (by decide) rfl (Nat.le_of_ble_eq_true rfl) hb1 (c_J0_indexOf_7cf53 h1) ?_
  obtain rfl := Option.some.inj h
  exact hs_ireturn dJ0_indexOf_0f7a4_6 rfl (by rfl) (fun _ => rfl)
def mX7_oneOf : hb_Y := (yX7_oneOf, cX7_oneOf, 3, (some .int), [], false)
set_option maxHeartbeats 4000000 in
set_option maxRecDepth 20000 in
theorem c_X7_oneOf_b19 {G : hb_G} {l : Launch} {z : Bool}  {x0 : Nat} {σ : hb_M} {r : (Int32 × hb_M)} (h : f_X7_oneOf_b19 x0 σ = some r) : hb_T G l z mX7_oneOf 4 0 0 19 [(0, .ref x0)] [] σ (.inl (some (.int r.1)), r.2) := by
  unfold f_X7_oneOf_b19 at h
  refine hs_aload_n dX7_oneOf_19 0 rfl ?_
  obtain ⟨r1, h1, h⟩ := hb_bind h
  obtain ⟨h1, nf1, hb1⟩ := hb_on_at h1
  refine hs_callVv (μ' := mX7_fail) (mc := 0) (ms := 0) (rc := 0) (rs := 0) (As := []) (rest := []) (ci := 7) dX7_oneOf_20 lmX7_34 okX7_fail rfl (by decide) rfl (Nat.le_of_ble_eq_true rfl) rfl hb1 (c_X7_fail h1) ?_
  refine hs_iconst (v := (-1 : Int32)) dX7_oneOf_23 (by decide) ?_
  obtain rfl := Option.some.inj h
  exact hs_ireturn dX7_oneOf_24 rfl (by rfl) (fun _ => rfl)
set_option maxHeartbeats 4000000 in
set_option maxRecDepth 20000 in
theorem c_X7_oneOf {G : hb_G} {l : Launch} {z : Bool} {x0 : Nat} {x1 : Nat} {σ : hb_M} {r : (Int32 × hb_M)} (h : f_X7_oneOf x0 x1 σ = some r) : hb_Call G l z 4 0 0 mX7_oneOf [.ref x0, .retAddr x1] σ (.inl (some (.int r.1)), r.2) := by
  refine hb_met (by decide) (Nat.le_of_ble_eq_true rfl) ?_
  unfold f_X7_oneOf at h
  refine hs_aload_n dX7_oneOf_0 0 rfl ?_
  obtain ⟨r1, h1, h⟩ := hb_bind h
  obtain ⟨h1, nf1, hb1⟩ := hb_on_at h1
  refine hs_callVi (μ' := mX7_next) (mc := 0) (ms := 0) (rc := 0) (rs := 0) (As := []) (rest := []) (ci := 7) dX7_oneOf_1 lmX7_26 okX7_next rfl (by decide) rfl (Nat.le_of_ble_eq_true rfl) rfl hb1 (c_X7_next h1) ?_
  refine hs_istore_n (lv' := [(2, .int r1.1), (0, .ref x0), (1, .retAddr x1)]) dX7_oneOf_4 (by decide) rfl ?_
  refine hs_iload_n dX7_oneOf_5 0 rfl ?_
  refine hs_iconst (v := (-1 : Int32)) dX7_oneOf_6 (by decide) ?_
  refine hs_icmp_eq (tgt := 19) dX7_oneOf_7 (by decide) (fun hc2 => ?_) (fun hc2 => ?_)
  · rw [if_pos hc2] at h
    refine hs_sub (lv' := [(0, .ref x0)]) [1] rfl ?_
    exact c_X7_oneOf_b19 h
  · rw [if_neg hc2] at h
    refine hs_sload_n dX7_oneOf_10 2 rfl ?_
    refine hs_iload_n dX7_oneOf_11 0 rfl ?_
    refine hs_i2c dX7_oneOf_12 ?_
    obtain ⟨r3, h3, h⟩ := hb_bind h
    obtain ⟨h3, hb3⟩ := hb_son_at h3
    refine hs_callVSi (μ' := mJ0_indexOf_0f7a4) (mc := 0) (ms := 0) (rc := 0) (rs := 0) (As := [.int ((r1.1.toUInt32 % 65536).toInt32)]) (rest := []) dX7_oneOf_13 lmX7_37 okJ0_indexOf_0f7a4 rfl rfl (by decide) rfl (Nat.le_of_ble_eq_true rfl) hb3 (c_J0_indexOf_0f7a4 h3) ?_
    refine hs_if_ge (tgt := 25) dX7_oneOf_16 (by decide) (fun hc4 => ?_) (fun hc4 => ?_)
    · rw [if_pos hc4] at h
      refine hs_aload_n dX7_oneOf_25 1 rfl ?_
      refine hs_dup dX7_oneOf_26 rfl ?_
      obtain ⟨r5, h5, h⟩ := hb_bind h
      refine hs_getI dX7_oneOf_27 lkX7_19 rfl h5 ?_
      refine hs_iconst (v := (1 : Int32)) dX7_oneOf_30 (by decide) ?_
      refine hs_iadd dX7_oneOf_31 ?_
      obtain ⟨r6, h6, h⟩ := hb_bind h
      refine hs_putI dX7_oneOf_32 lpX7_oneOf_19 rfl h6 ?_
      refine hs_iload_n dX7_oneOf_35 0 rfl ?_
      obtain rfl := Option.some.inj h
      exact hs_ireturn dX7_oneOf_36 rfl (by rfl) (fun _ => rfl)
    · rw [if_neg hc4] at h
      refine hs_sub (lv' := [(0, .ref x0)]) [1] rfl ?_
      exact c_X7_oneOf_b19 h
def mX7_number : hb_Y := (yX7_number, cX7_number, 5, (some .int), [], false)
set_option maxHeartbeats 4000000 in
set_option maxRecDepth 20000 in
theorem c_X7_number_b62 {G : hb_G} {l : Launch} {z : Bool}  {x0 : Nat} {x2 : Int32} {x3 : Int32} {σ : hb_M} {r : (Int32 × hb_M)} (h : f_X7_number_b62 x0 x2 x3 σ = some r) : hb_T G l z mX7_number 1 0 0 62 [(0, .ref x0), (2, .int x2), (3, .int x3)] [] σ (.inl (some (.int r.1)), r.2) := by
  unfold f_X7_number_b62 at h
  refine hs_iload_n dX7_number_62 2 rfl ?_
  refine hs_if_ne (tgt := 70) dX7_number_63 (by decide) (fun hc1 => ?_) (fun hc1 => ?_)
  · rw [if_neg hc1] at h
    refine hs_iload_n dX7_number_70 1 rfl ?_
    obtain rfl := Option.some.inj h
    exact hs_ireturn dX7_number_71 rfl (by rfl) (fun _ => rfl)
  · rw [if_pos hc1] at h
    refine hs_aload_n dX7_number_66 0 rfl ?_
    obtain ⟨r2, h2, h⟩ := hb_bind h
    obtain ⟨h2, nf2, hb2⟩ := hb_on_at h2
    refine hs_callVv (μ' := mX7_fail) (mc := 0) (ms := 0) (rc := 0) (rs := 0) (As := []) (rest := []) (ci := 7) dX7_number_67 lmX7_34 okX7_fail rfl (by decide) rfl (Nat.le_of_ble_eq_true rfl) rfl hb2 (c_X7_fail h2) ?_
    refine hs_iload_n dX7_number_70 1 rfl ?_
    obtain rfl := Option.some.inj h
    exact hs_ireturn dX7_number_71 rfl (by rfl) (fun _ => rfl)
set_option maxHeartbeats 4000000 in
set_option maxRecDepth 20000 in
theorem c_X7_number_b10 {G : hb_G} {l : Launch} {z : Bool} : ∀ (n : Nat) (x0 : Nat) (x1 : Int32) (x2 : Int32) (x3 : Int32) (x4 : Int32) (σ : hb_M) (r : (Int32 × hb_M)), f_X7_number_b10 n x0 x1 x2 x3 x4 σ = some r → hb_T G l z mX7_number 1 0 0 10 [(0, .ref x0), (1, .int x1), (2, .int x2), (3, .int x3), (4, .int x4)] [] σ (.inl (some (.int r.1)), r.2) := by
  intro n
  induction n with
  | zero =>
    intro x0 x1 x2 x3 x4 σ r h
    cases h
  | succ n ih =>
    intro x0 x1 x2 x3 x4 σ r h
    rw [f_X7_number_b10] at h
    refine hs_iload_n dX7_number_10 3 rfl ?_
    refine hs_iload_n dX7_number_11 1 rfl ?_
    refine hs_icmp_ge (tgt := 62) dX7_number_12 (by decide) (fun hc1 => ?_) (fun hc1 => ?_)
    · rw [if_pos hc1] at h
      refine hs_sub (lv' := [(0, .ref x0), (2, .int x2), (3, .int x3)]) [0, 2, 3] rfl ?_
      exact c_X7_number_b62 h
    · rw [if_neg hc1] at h
      refine hs_iload dX7_number_15 4 rfl ?_
      refine hs_bipush (v := (48 : Int32)) dX7_number_17 (by decide) ?_
      refine hs_icmp_lt (tgt := 62) dX7_number_19 (by decide) (fun hc2 => ?_) (fun hc2 => ?_)
      · rw [if_pos hc2] at h
        refine hs_sub (lv' := [(0, .ref x0), (2, .int x2), (3, .int x3)]) [0, 2, 3] rfl ?_
        exact c_X7_number_b62 h
      · rw [if_neg hc2] at h
        refine hs_iload dX7_number_22 4 rfl ?_
        refine hs_bipush (v := (57 : Int32)) dX7_number_24 (by decide) ?_
        refine hs_icmp_gt (tgt := 62) dX7_number_26 (by decide) (fun hc3 => ?_) (fun hc3 => ?_)
        · rw [if_pos hc3] at h
          refine hs_sub (lv' := [(0, .ref x0), (2, .int x2), (3, .int x3)]) [0, 2, 3] rfl ?_
          exact c_X7_number_b62 h
        · rw [if_neg hc3] at h
          refine hs_iload_n dX7_number_29 2 rfl ?_
          refine hs_bipush (v := (10 : Int32)) dX7_number_30 (by decide) ?_
          refine hs_imul dX7_number_32 ?_
          refine hs_iload dX7_number_33 4 rfl ?_
          refine hs_iadd dX7_number_35 ?_
          refine hs_bipush (v := (48 : Int32)) dX7_number_36 (by decide) ?_
          refine hs_isub dX7_number_38 ?_
          refine hs_istore_n (lv' := [(2, .int (((x2 * (10 : Int32)) + x4) - (48 : Int32))), (0, .ref x0), (1, .int x1), (3, .int x3), (4, .int x4)]) dX7_number_39 (by decide) rfl ?_
          refine hs_aload_n dX7_number_40 1 rfl ?_
          refine hs_dup dX7_number_41 rfl ?_
          obtain ⟨r4, h4, h⟩ := hb_bind h
          refine hs_getI dX7_number_42 lkX7_19 rfl h4 ?_
          refine hs_iconst (v := (1 : Int32)) dX7_number_45 (by decide) ?_
          refine hs_iadd dX7_number_46 ?_
          obtain ⟨r5, h5, h⟩ := hb_bind h
          refine hs_putI dX7_number_47 lpX7_number_19 rfl h5 ?_
          refine hs_iinc2 (k := (1 : Int32)) (lv' := [(3, .int (x3 + (1 : Int32))), (2, .int (((x2 * (10 : Int32)) + x4) - (48 : Int32))), (0, .ref x0), (1, .int x1), (4, .int x4)]) dX7_number_50 (by decide) 3 rfl (by decide) rfl ?_
          refine hs_aload_n dX7_number_53 2 rfl ?_
          obtain ⟨r6, h6, h⟩ := hb_bind h
          obtain ⟨h6, nf6, hb6⟩ := hb_on_at h6
          refine hs_callVi (μ' := mX7_next) (mc := 0) (ms := 0) (rc := 0) (rs := 0) (As := []) (rest := []) (ci := 7) dX7_number_54 lmX7_26 okX7_next rfl (by decide) rfl (Nat.le_of_ble_eq_true rfl) rfl hb6 (c_X7_next h6) ?_
          refine hs_istore (lv' := [(4, .int r6.1), (3, .int (x3 + (1 : Int32))), (2, .int (((x2 * (10 : Int32)) + x4) - (48 : Int32))), (0, .ref x0), (1, .int x1)]) dX7_number_57 (by decide) rfl ?_
          refine hs_goto (tgt := 10) dX7_number_59 (by decide) ?_
          refine hs_sub (lv' := [(0, .ref x0), (1, .int x1), (2, .int (((x2 * (10 : Int32)) + x4) - (48 : Int32))), (3, .int (x3 + (1 : Int32))), (4, .int r6.1)]) [3, 4, 2, 1, 0] rfl ?_
          exact ih _ _ _ _ _ _ _ h
set_option maxHeartbeats 4000000 in
set_option maxRecDepth 20000 in
theorem c_X7_number {G : hb_G} {l : Launch} {z : Bool} {x0 : Nat} {x1 : Int32} {σ : hb_M} {r : (Int32 × hb_M)} (h : f_X7_number x0 x1 σ = some r) : hb_Call G l z 1 0 0 mX7_number [.ref x0, .int x1] σ (.inl (some (.int r.1)), r.2) := by
  refine hb_met (by decide) (Nat.le_of_ble_eq_true rfl) ?_
  unfold f_X7_number at h
  refine hs_iconst (v := (0 : Int32)) dX7_number_0 (by decide) ?_
  refine hs_istore_n (lv' := [(2, .int (0 : Int32)), (0, .ref x0), (1, .int x1)]) dX7_number_1 (by decide) rfl ?_
  refine hs_iconst (v := (0 : Int32)) dX7_number_2 (by decide) ?_
  refine hs_istore_n (lv' := [(3, .int (0 : Int32)), (2, .int (0 : Int32)), (0, .ref x0), (1, .int x1)]) dX7_number_3 (by decide) rfl ?_
  refine hs_aload_n dX7_number_4 2 rfl ?_
  obtain ⟨r1, h1, h⟩ := hb_bind h
  obtain ⟨h1, nf1, hb1⟩ := hb_on_at h1
  refine hs_callVi (μ' := mX7_next) (mc := 0) (ms := 0) (rc := 0) (rs := 0) (As := []) (rest := []) (ci := 7) dX7_number_5 lmX7_26 okX7_next rfl (by decide) rfl (Nat.le_of_ble_eq_true rfl) rfl hb1 (c_X7_next h1) ?_
  refine hs_istore (lv' := [(4, .int r1.1), (3, .int (0 : Int32)), (2, .int (0 : Int32)), (0, .ref x0), (1, .int x1)]) dX7_number_8 (by decide) rfl ?_
  refine hs_sub (lv' := [(0, .ref x0), (1, .int x1), (2, .int (0 : Int32)), (3, .int (0 : Int32)), (4, .int r1.1)]) [3, 4, 2, 1, 0] rfl ?_
  exact c_X7_number_b10 hb_FU _ _ _ _ _ _ _ h
