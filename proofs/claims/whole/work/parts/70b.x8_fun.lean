theorem okX0_init : hb_okI mX0_init 1 := ⟨⟨hb_w 4 (by decide +kernel) (by decide +kernel), hb_w 101 (by decide +kernel) (by decide +kernel), ⟨by decide +kernel, by decide +kernel, by decide +kernel⟩, by decide⟩, rfl, hb_w 100 (by decide +kernel) (by decide +kernel), rfl⟩
theorem okX5_init : hb_okI mX5_init 0 := ⟨⟨hb_w 6 (by decide +kernel) (by decide +kernel), hb_w 188 (by decide +kernel) (by decide +kernel), ⟨by decide +kernel, by decide +kernel, by decide +kernel⟩, by decide⟩, rfl, hb_w 187 (by decide +kernel) (by decide +kernel), rfl⟩
theorem okX7_init : hb_okI mX7_init 0 := ⟨⟨hb_w 7 (by decide +kernel) (by decide +kernel), hb_w 205 (by decide +kernel) (by decide +kernel), ⟨by decide +kernel, by decide +kernel, by decide +kernel⟩, by decide⟩, rfl, hb_w 204 (by decide +kernel) (by decide +kernel), rfl⟩
theorem okX3_init : hb_okI mX3_init 3 := ⟨⟨hb_w 8 (by decide +kernel) (by decide +kernel), hb_w 229 (by decide +kernel) (by decide +kernel), ⟨by decide +kernel, by decide +kernel, by decide +kernel⟩, by decide⟩, rfl, hb_w 228 (by decide +kernel) (by decide +kernel), rfl⟩
theorem okX1_init : hb_okI mX1_init 3 := ⟨⟨hb_w 9 (by decide +kernel) (by decide +kernel), hb_w 245 (by decide +kernel) (by decide +kernel), ⟨by decide +kernel, by decide +kernel, by decide +kernel⟩, by decide⟩, rfl, hb_w 244 (by decide +kernel) (by decide +kernel), rfl⟩
theorem okX2_init : hb_okI mX2_init 0 := ⟨⟨hb_w 10 (by decide +kernel) (by decide +kernel), hb_w 277 (by decide +kernel) (by decide +kernel), ⟨by decide +kernel, by decide +kernel, by decide +kernel⟩, by decide⟩, rfl, hb_w 276 (by decide +kernel) (by decide +kernel), rfl⟩
theorem okX4_problemOfClass : hb_okV mX4_problemOfClass 3 := ⟨⟨hb_w 2 (by decide +kernel) (by decide +kernel), hb_w 825 (by decide +kernel) (by decide +kernel), ⟨by decide +kernel, by decide +kernel, by decide +kernel⟩, by decide⟩, hb_w 823 (by decide +kernel) (by decide +kernel), hb_w 824 (by decide +kernel) (by decide +kernel)⟩
theorem okX8_refuse : hb_okS mX8_refuse 1 := ⟨⟨hb_w 1 (by decide +kernel) (by decide +kernel), hb_w 828 (by decide +kernel) (by decide +kernel), ⟨by decide +kernel, by decide +kernel, by decide +kernel⟩, by decide⟩, hb_w 827 (by decide +kernel) (by decide +kernel)⟩
theorem okX5_save : hb_okV mX5_save 1 := ⟨⟨hb_w 6 (by decide +kernel) (by decide +kernel), hb_w 323 (by decide +kernel) (by decide +kernel), ⟨by decide +kernel, by decide +kernel, by decide +kernel⟩, by decide⟩, hb_w 321 (by decide +kernel) (by decide +kernel), hb_w 322 (by decide +kernel) (by decide +kernel)⟩
theorem okX4_addClass : hb_okV mX4_addClass 3 := ⟨⟨hb_w 2 (by decide +kernel) (by decide +kernel), hb_w 925 (by decide +kernel) (by decide +kernel), ⟨by decide +kernel, by decide +kernel, by decide +kernel⟩, by decide⟩, hb_w 923 (by decide +kernel) (by decide +kernel), hb_w 924 (by decide +kernel) (by decide +kernel)⟩
theorem okX4_classFact : hb_okV mX4_classFact 2 := ⟨⟨hb_w 2 (by decide +kernel) (by decide +kernel), hb_w 795 (by decide +kernel) (by decide +kernel), ⟨by decide +kernel, by decide +kernel, by decide +kernel⟩, by decide⟩, hb_w 793 (by decide +kernel) (by decide +kernel), hb_w 794 (by decide +kernel) (by decide +kernel)⟩
theorem okX4_problemOfLength : hb_okV mX4_problemOfLength 2 := ⟨⟨hb_w 2 (by decide +kernel) (by decide +kernel), hb_w 1000 (by decide +kernel) (by decide +kernel), ⟨by decide +kernel, by decide +kernel, by decide +kernel⟩, by decide⟩, hb_w 998 (by decide +kernel) (by decide +kernel), hb_w 999 (by decide +kernel) (by decide +kernel)⟩
theorem okX4_putLength : hb_okV mX4_putLength 2 := ⟨⟨hb_w 2 (by decide +kernel) (by decide +kernel), hb_w 1004 (by decide +kernel) (by decide +kernel), ⟨by decide +kernel, by decide +kernel, by decide +kernel⟩, by decide⟩, hb_w 1002 (by decide +kernel) (by decide +kernel), hb_w 1003 (by decide +kernel) (by decide +kernel)⟩
theorem okX4_objectFact : hb_okV mX4_objectFact 2 := ⟨⟨hb_w 2 (by decide +kernel) (by decide +kernel), hb_w 807 (by decide +kernel) (by decide +kernel), ⟨by decide +kernel, by decide +kernel, by decide +kernel⟩, by decide⟩, hb_w 805 (by decide +kernel) (by decide +kernel), hb_w 806 (by decide +kernel) (by decide +kernel)⟩
theorem okX2_addTo : hb_okV mX2_addTo 1 := ⟨⟨hb_w 10 (by decide +kernel) (by decide +kernel), hb_w 1050 (by decide +kernel) (by decide +kernel), ⟨by decide +kernel, by decide +kernel, by decide +kernel⟩, by decide⟩, hb_w 1048 (by decide +kernel) (by decide +kernel), hb_w 1049 (by decide +kernel) (by decide +kernel)⟩
theorem okX2_begin : hb_okV mX2_begin 1 := ⟨⟨hb_w 10 (by decide +kernel) (by decide +kernel), hb_w 1046 (by decide +kernel) (by decide +kernel), ⟨by decide +kernel, by decide +kernel, by decide +kernel⟩, by decide⟩, hb_w 1044 (by decide +kernel) (by decide +kernel), hb_w 1045 (by decide +kernel) (by decide +kernel)⟩
theorem okX6_pathObject : hb_okV mX6_pathObject 2 := ⟨⟨hb_w 5 (by decide +kernel) (by decide +kernel), hb_w 1090 (by decide +kernel) (by decide +kernel), ⟨by decide +kernel, by decide +kernel, by decide +kernel⟩, by decide⟩, hb_w 1088 (by decide +kernel) (by decide +kernel), hb_w 1089 (by decide +kernel) (by decide +kernel)⟩
theorem okX0_sizeOfComponent : hb_okV mX0_sizeOfComponent 1 := ⟨⟨hb_w 4 (by decide +kernel) (by decide +kernel), hb_w 1155 (by decide +kernel) (by decide +kernel), ⟨by decide +kernel, by decide +kernel, by decide +kernel⟩, by decide⟩, hb_w 1153 (by decide +kernel) (by decide +kernel), hb_w 1154 (by decide +kernel) (by decide +kernel)⟩
theorem okX0_lostWithoutSlot : hb_okV mX0_lostWithoutSlot 2 := ⟨⟨hb_w 4 (by decide +kernel) (by decide +kernel), hb_w 1166 (by decide +kernel) (by decide +kernel), ⟨by decide +kernel, by decide +kernel, by decide +kernel⟩, by decide⟩, hb_w 1164 (by decide +kernel) (by decide +kernel), hb_w 1165 (by decide +kernel) (by decide +kernel)⟩
theorem okX0_lostWithoutRoot : hb_okV mX0_lostWithoutRoot 1 := ⟨⟨hb_w 4 (by decide +kernel) (by decide +kernel), hb_w 1177 (by decide +kernel) (by decide +kernel), ⟨by decide +kernel, by decide +kernel, by decide +kernel⟩, by decide⟩, hb_w 1175 (by decide +kernel) (by decide +kernel), hb_w 1176 (by decide +kernel) (by decide +kernel)⟩
theorem okX4_hasGroup : hb_okV mX4_hasGroup 1 := ⟨⟨hb_w 2 (by decide +kernel) (by decide +kernel), hb_w 1188 (by decide +kernel) (by decide +kernel), ⟨by decide +kernel, by decide +kernel, by decide +kernel⟩, by decide⟩, hb_w 1186 (by decide +kernel) (by decide +kernel), hb_w 1187 (by decide +kernel) (by decide +kernel)⟩
theorem okX0_lostWithout : hb_okV mX0_lostWithout 1 := ⟨⟨hb_w 4 (by decide +kernel) (by decide +kernel), hb_w 659 (by decide +kernel) (by decide +kernel), ⟨by decide +kernel, by decide +kernel, by decide +kernel⟩, by decide⟩, hb_w 657 (by decide +kernel) (by decide +kernel), hb_w 658 (by decide +kernel) (by decide +kernel)⟩
theorem okX0_suspects : hb_okV mX0_suspects 1 := ⟨⟨hb_w 4 (by decide +kernel) (by decide +kernel), hb_w 1221 (by decide +kernel) (by decide +kernel), ⟨by decide +kernel, by decide +kernel, by decide +kernel⟩, by decide⟩, hb_w 1219 (by decide +kernel) (by decide +kernel), hb_w 1220 (by decide +kernel) (by decide +kernel)⟩
theorem okX0_accumulationFrom : hb_okV mX0_accumulationFrom 2 := ⟨⟨hb_w 4 (by decide +kernel) (by decide +kernel), hb_w 1242 (by decide +kernel) (by decide +kernel), ⟨by decide +kernel, by decide +kernel, by decide +kernel⟩, by decide⟩, hb_w 1240 (by decide +kernel) (by decide +kernel), hb_w 1241 (by decide +kernel) (by decide +kernel)⟩
theorem okX7_add : hb_okV mX7_add 1 := ⟨⟨hb_w 7 (by decide +kernel) (by decide +kernel), hb_w 1255 (by decide +kernel) (by decide +kernel), ⟨by decide +kernel, by decide +kernel, by decide +kernel⟩, by decide⟩, hb_w 1253 (by decide +kernel) (by decide +kernel), hb_w 1254 (by decide +kernel) (by decide +kernel)⟩
theorem okX3_apply : hb_okV mX3_apply 0 := ⟨⟨hb_w 8 (by decide +kernel) (by decide +kernel), hb_w 472 (by decide +kernel) (by decide +kernel), ⟨by decide +kernel, by decide +kernel, by decide +kernel⟩, by decide⟩, hb_w 470 (by decide +kernel) (by decide +kernel), hb_w 471 (by decide +kernel) (by decide +kernel)⟩
theorem okX1_read : hb_okV mX1_read 0 := ⟨⟨hb_w 9 (by decide +kernel) (by decide +kernel), hb_w 673 (by decide +kernel) (by decide +kernel), ⟨by decide +kernel, by decide +kernel, by decide +kernel⟩, by decide⟩, hb_w 671 (by decide +kernel) (by decide +kernel), hb_w 672 (by decide +kernel) (by decide +kernel)⟩
theorem okX1_run : hb_okV mX1_run 0 := ⟨⟨hb_w 9 (by decide +kernel) (by decide +kernel), hb_w 693 (by decide +kernel) (by decide +kernel), ⟨by decide +kernel, by decide +kernel, by decide +kernel⟩, by decide⟩, hb_w 691 (by decide +kernel) (by decide +kernel), hb_w 692 (by decide +kernel) (by decide +kernel)⟩
theorem okX5_noted : hb_okV mX5_noted 0 := ⟨⟨hb_w 6 (by decide +kernel) (by decide +kernel), hb_w 779 (by decide +kernel) (by decide +kernel), ⟨by decide +kernel, by decide +kernel, by decide +kernel⟩, by decide⟩, hb_w 777 (by decide +kernel) (by decide +kernel), hb_w 778 (by decide +kernel) (by decide +kernel)⟩
theorem okX4_countNotIn : hb_okV mX4_countNotIn 1 := ⟨⟨hb_w 2 (by decide +kernel) (by decide +kernel), hb_w 1276 (by decide +kernel) (by decide +kernel), ⟨by decide +kernel, by decide +kernel, by decide +kernel⟩, by decide⟩, hb_w 1274 (by decide +kernel) (by decide +kernel), hb_w 1275 (by decide +kernel) (by decide +kernel)⟩
theorem okX4_countChangedSince : hb_okV mX4_countChangedSince 1 := ⟨⟨hb_w 2 (by decide +kernel) (by decide +kernel), hb_w 1284 (by decide +kernel) (by decide +kernel), ⟨by decide +kernel, by decide +kernel, by decide +kernel⟩, by decide⟩, hb_w 1282 (by decide +kernel) (by decide +kernel), hb_w 1283 (by decide +kernel) (by decide +kernel)⟩
theorem okX5_latest : hb_okV mX5_latest 0 := ⟨⟨hb_w 6 (by decide +kernel) (by decide +kernel), hb_w 1312 (by decide +kernel) (by decide +kernel), ⟨by decide +kernel, by decide +kernel, by decide +kernel⟩, by decide⟩, hb_w 1310 (by decide +kernel) (by decide +kernel), hb_w 1311 (by decide +kernel) (by decide +kernel)⟩
theorem okX5_dropLatest : hb_okV mX5_dropLatest 0 := ⟨⟨hb_w 6 (by decide +kernel) (by decide +kernel), hb_w 1317 (by decide +kernel) (by decide +kernel), ⟨by decide +kernel, by decide +kernel, by decide +kernel⟩, by decide⟩, hb_w 1315 (by decide +kernel) (by decide +kernel), hb_w 1316 (by decide +kernel) (by decide +kernel)⟩
def mX8_init : hb_Y := (yX8_init, cX8_init, 2, none, [], false)
set_option maxHeartbeats 4000000 in
set_option maxRecDepth 20000 in
theorem c_X8_init {G : hb_G} {l : Launch} {x0 : Nat} {σ : hb_M} {r : hb_M} (h : f_X8_init x0 σ = some r) : hb_Call G l false 3 129 6818 mX8_init [.ref x0] σ (.inl none, r) := by
  refine hb_met (by decide) (Nat.le_of_ble_eq_true rfl) ?_
  unfold f_X8_init at h
  refine hs_aload_n dX8_init_0 0 rfl ?_
  refine hs_objInit dX8_init_1 wd_34 hb_oi1 hb_oi2 (Nat.le_of_ble_eq_true rfl) ?_
  refine hs_aload_n dX8_init_4 0 rfl ?_
  obtain ⟨r1, h1, h⟩ := hb_bind h
  refine hs_newO (rc := 128) (rs := 6805) (N := 13) (ci := 4) (C := RX4) (T := TX4) dX8_init_5 rfl (by decide +kernel) wd_37 wd_38 wd_2 h1 ?_
  refine hs_dup dX8_init_8 rfl ?_
  obtain ⟨r2, h2, h⟩ := hb_bind h
  refine hs_callIv (mc := 10) (ms := 590) (rc := 118) (rs := 6215) (y9 := yX4_init) (cc9 := cX4_init) (nL9 := 1) (As := []) (rest := [.ref r1.1, .ref x0]) dX8_init_9 (Or.inl lmX8_9) okX4_init rfl (by decide) rfl (Nat.le_of_ble_eq_true rfl) (c_X4_init h2) ?_
  obtain ⟨r3, h3, h⟩ := hb_bind h
  refine hs_putR dX8_init_12 lpX8_init_10 rfl h3 ?_
  refine hs_aload_n dX8_init_15 0 rfl ?_
  obtain ⟨r4, h4, h⟩ := hb_bind h
  refine hs_newO (rc := 117) (rs := 6202) (N := 13) (ci := 0) (C := RX0) (T := TX0) dX8_init_16 rfl (by decide +kernel) wd_97 wd_98 wd_4 h4 ?_
  refine hs_dup dX8_init_19 rfl ?_
  refine hs_aload_n dX8_init_20 0 rfl ?_
  obtain ⟨r5, h5, h⟩ := hb_bind h
  refine hs_getR dX8_init_21 lkX8_10 rfl h5 ?_
  obtain ⟨r6, h6, h⟩ := hb_bind h
  refine hs_callIv (mc := 16) (ms := 850) (rc := 101) (rs := 5352) (y9 := yX0_init) (cc9 := cX0_init) (nL9 := 2) (As := [.ref r5]) (rest := [.ref r4.1, .ref x0]) dX8_init_24 (Or.inl lmX8_18) okX0_init rfl (by decide) rfl (Nat.le_of_ble_eq_true rfl) (c_X0_init h6) ?_
  obtain ⟨r7, h7, h⟩ := hb_bind h
  refine hs_putR dX8_init_27 lpX8_init_21 rfl h7 ?_
  refine hs_aload_n dX8_init_30 0 rfl ?_
  obtain ⟨r8, h8, h⟩ := hb_bind h
  refine hs_newO (rc := 100) (rs := 5350) (N := 2) (ci := 5) (C := RX5) (T := TX5) dX8_init_31 rfl (by decide +kernel) wd_184 wd_185 wd_6 h8 ?_
  refine hs_dup dX8_init_34 rfl ?_
  obtain ⟨r9, h9, h⟩ := hb_bind h
  refine hs_callIv (mc := 67) (ms := 3624) (rc := 33) (rs := 1726) (y9 := yX5_init) (cc9 := cX5_init) (nL9 := 2) (As := []) (rest := [.ref r8.1, .ref x0]) dX8_init_35 (Or.inl lmX8_27) okX5_init rfl (by decide) rfl (Nat.le_of_ble_eq_true rfl) (c_X5_init h9) ?_
  obtain ⟨r10, h10, h⟩ := hb_bind h
  refine hs_putR dX8_init_38 lpX8_init_28 rfl h10 ?_
  refine hs_aload_n dX8_init_41 0 rfl ?_
  obtain ⟨r11, h11, h⟩ := hb_bind h
  refine hs_newO (rc := 32) (rs := 1722) (N := 4) (ci := 7) (C := RX7) (T := TX7) dX8_init_42 rfl (by decide +kernel) wd_201 wd_202 wd_7 h11 ?_
  refine hs_dup dX8_init_45 rfl ?_
  obtain ⟨r12, h12, h⟩ := hb_bind h
  refine hs_callIv (mc := 1) (ms := 100) (rc := 31) (rs := 1622) (y9 := yX7_init) (cc9 := cX7_init) (nL9 := 1) (As := []) (rest := [.ref r11.1, .ref x0]) dX8_init_46 (Or.inr lnX8_34) okX7_init rfl (by decide) rfl (Nat.le_of_ble_eq_true rfl) (c_X7_init h12) ?_
  obtain ⟨r13, h13, h⟩ := hb_bind h
  refine hs_putR dX8_init_49 lpX8_init_35 rfl h13 ?_
  refine hs_aload_n dX8_init_52 0 rfl ?_
  obtain ⟨r14, h14, h⟩ := hb_bind h
  refine hs_newO (rc := 30) (rs := 1619) (N := 3) (ci := 3) (C := RX3) (T := TX3) dX8_init_53 rfl (by decide +kernel) wd_225 wd_226 wd_8 h14 ?_
  refine hs_dup dX8_init_56 rfl ?_
  refine hs_aload_n dX8_init_57 0 rfl ?_
  obtain ⟨r15, h15, h⟩ := hb_bind h
  refine hs_getR dX8_init_58 lkX8_10 rfl h15 ?_
  refine hs_aload_n dX8_init_61 0 rfl ?_
  obtain ⟨r16, h16, h⟩ := hb_bind h
  refine hs_getR dX8_init_62 lkX8_21 rfl h16 ?_
  refine hs_aload_n dX8_init_65 0 rfl ?_
  obtain ⟨r17, h17, h⟩ := hb_bind h
  refine hs_getR dX8_init_66 lkX8_35 rfl h17 ?_
  obtain ⟨r18, h18, h⟩ := hb_bind h
  refine hs_callIv (mc := 0) (ms := 0) (rc := 30) (rs := 1619) (y9 := yX3_init) (cc9 := cX3_init) (nL9 := 4) (As := [.ref r15, .ref r16, .ref r17]) (rest := [.ref r14.1, .ref x0]) dX8_init_69 (Or.inl lmX8_41) okX3_init rfl (by decide) rfl (Nat.le_of_ble_eq_true rfl) (c_X3_init h18) ?_
  obtain ⟨r19, h19, h⟩ := hb_bind h
  refine hs_putR dX8_init_72 lpX8_init_44 rfl h19 ?_
  refine hs_aload_n dX8_init_75 0 rfl ?_
  obtain ⟨r20, h20, h⟩ := hb_bind h
  refine hs_newO (rc := 29) (rs := 1611) (N := 8) (ci := 1) (C := RX1) (T := TX1) dX8_init_76 rfl (by decide +kernel) wd_241 wd_242 wd_9 h20 ?_
  refine hs_dup dX8_init_79 rfl ?_
  refine hs_aload_n dX8_init_80 0 rfl ?_
  obtain ⟨r21, h21, h⟩ := hb_bind h
  refine hs_getR dX8_init_81 lkX8_10 rfl h21 ?_
  refine hs_aload_n dX8_init_84 0 rfl ?_
  obtain ⟨r22, h22, h⟩ := hb_bind h
  refine hs_getR dX8_init_85 lkX8_21 rfl h22 ?_
  refine hs_aload_n dX8_init_88 0 rfl ?_
  obtain ⟨r23, h23, h⟩ := hb_bind h
  refine hs_getR dX8_init_89 lkX8_35 rfl h23 ?_
  obtain ⟨r24, h24, h⟩ := hb_bind h
  refine hs_callIv (mc := 4) (ms := 400) (rc := 25) (rs := 1211) (y9 := yX1_init) (cc9 := cX1_init) (nL9 := 4) (As := [.ref r21, .ref r22, .ref r23]) (rest := [.ref r20.1, .ref x0]) dX8_init_92 (Or.inl lmX8_50) okX1_init rfl (by decide) rfl (Nat.le_of_ble_eq_true rfl) (c_X1_init h24) ?_
  obtain ⟨r25, h25, h⟩ := hb_bind h
  refine hs_putR dX8_init_95 lpX8_init_51 rfl h25 ?_
  refine hs_aload_n dX8_init_98 0 rfl ?_
  obtain ⟨r26, h26, h⟩ := hb_bind h
  refine hs_newO (rc := 24) (rs := 1210) (N := 1) (ci := 2) (C := RX2) (T := TX2) dX8_init_99 rfl (by decide +kernel) wd_273 wd_274 wd_10 h26 ?_
  refine hs_dup dX8_init_102 rfl ?_
  obtain ⟨r27, h27, h⟩ := hb_bind h
  refine hs_callIv (mc := 0) (ms := 0) (rc := 24) (rs := 1210) (y9 := yX2_init) (cc9 := cX2_init) (nL9 := 1) (As := []) (rest := [.ref r26.1, .ref x0]) dX8_init_103 (Or.inr lnX8_57) okX2_init rfl (by decide) rfl (Nat.le_of_ble_eq_true rfl) (c_X2_init h27) ?_
  obtain ⟨r28, h28, h⟩ := hb_bind h
  refine hs_putR dX8_init_106 lpX8_init_58 rfl h28 ?_
  refine hs_aload_n dX8_init_109 0 rfl ?_
  refine hs_iconst (v := (2 : Int32)) dX8_init_110 (by decide) ?_
  obtain ⟨r29, h29, h⟩ := hb_bind h
  refine hs_newH (rc := 23) (rs := 1208) (k := 2) dX8_init_111 wd_37 h29 (by decide) ?_
  obtain ⟨r30, h30, h⟩ := hb_bind h
  refine hs_putR dX8_init_114 lpX8_init_62 rfl h30 ?_
  refine hs_iconst (v := (0 : Int32)) dX8_init_117 (by decide) ?_
  refine hs_istore_n (lv' := [(1, .int (0 : Int32)), (0, .ref x0)]) dX8_init_118 (by decide) rfl ?_
  refine hs_iload_n dX8_init_119 0 rfl ?_
  refine hs_iconst (v := (2 : Int32)) dX8_init_120 (by decide) ?_
  refine hs_icmp_ge (tgt := 143) dX8_init_121 (by decide) (fun hc => absurd hc (by decide)) (fun _ => ?_)
  refine hs_aload_n dX8_init_124 1 rfl ?_
  obtain ⟨r32, h32, h⟩ := hb_bind h
  refine hs_getR dX8_init_125 lkX8_62 rfl h32 ?_
  refine hs_iload_n dX8_init_128 0 rfl ?_
  obtain ⟨r33, h33, h⟩ := hb_bind h
  refine hs_newO (rc := 22) (rs := 1195) (N := 13) (ci := 4) (C := RX4) (T := TX4) dX8_init_129 rfl (by decide +kernel) wd_37 wd_38 wd_2 h33 ?_
  refine hs_dup dX8_init_132 rfl ?_
  obtain ⟨r34, h34, h⟩ := hb_bind h
  refine hs_callIv (mc := 10) (ms := 590) (rc := 12) (rs := 605) (y9 := yX4_init) (cc9 := cX4_init) (nL9 := 1) (As := []) (rest := [.ref r33.1, .int (0 : Int32), .ref r32]) dX8_init_133 (Or.inl lmX8_9) okX4_init rfl (by decide) rfl (Nat.le_of_ble_eq_true rfl) (c_X4_init h34) ?_
  obtain ⟨r35, h35, h⟩ := hb_bind h
  refine hs_aast dX8_init_136 h35 ?_
  refine hs_iinc2 (k := (1 : Int32)) (lv' := [(1, .int ((0 : Int32) + (1 : Int32))), (0, .ref x0)]) dX8_init_137 (by decide) 0 rfl (by decide) rfl ?_
  refine hs_goto (tgt := 119) dX8_init_140 (by decide) ?_
  refine hs_iload_n dX8_init_119 0 rfl ?_
  refine hs_iconst (v := (2 : Int32)) dX8_init_120 (by decide) ?_
  refine hs_icmp_ge (tgt := 143) dX8_init_121 (by decide) (fun hc => absurd hc (by decide)) (fun _ => ?_)
  refine hs_aload_n dX8_init_124 1 rfl ?_
  obtain ⟨r37, h37, h⟩ := hb_bind h
  refine hs_getR dX8_init_125 lkX8_62 rfl h37 ?_
  refine hs_iload_n dX8_init_128 0 rfl ?_
  obtain ⟨r38, h38, h⟩ := hb_bind h
  refine hs_newO (rc := 11) (rs := 592) (N := 13) (ci := 4) (C := RX4) (T := TX4) dX8_init_129 rfl (by decide +kernel) wd_37 wd_38 wd_2 h38 ?_
  refine hs_dup dX8_init_132 rfl ?_
  obtain ⟨r39, h39, h⟩ := hb_bind h
  refine hs_callIv (mc := 10) (ms := 590) (rc := 1) (rs := 2) (y9 := yX4_init) (cc9 := cX4_init) (nL9 := 1) (As := []) (rest := [.ref r38.1, .int ((0 : Int32) + (1 : Int32)), .ref r37]) dX8_init_133 (Or.inl lmX8_9) okX4_init rfl (by decide) rfl (Nat.le_of_ble_eq_true rfl) (c_X4_init h39) ?_
  obtain ⟨r40, h40, h⟩ := hb_bind h
  refine hs_aast dX8_init_136 h40 ?_
  refine hs_iinc2 (k := (1 : Int32)) (lv' := [(1, .int (((0 : Int32) + (1 : Int32)) + (1 : Int32))), (0, .ref x0)]) dX8_init_137 (by decide) 0 rfl (by decide) rfl ?_
  refine hs_goto (tgt := 119) dX8_init_140 (by decide) ?_
  refine hs_iload_n dX8_init_119 0 rfl ?_
  refine hs_iconst (v := (2 : Int32)) dX8_init_120 (by decide) ?_
  refine hs_icmp_ge (tgt := 143) dX8_init_121 (by decide) (fun _ => ?_) (fun hc => absurd (by decide) hc)
  refine hs_aload_n dX8_init_143 1 rfl ?_
  refine hs_iconst (v := (2 : Int32)) dX8_init_144 (by decide) ?_
  obtain ⟨r42, h42, h⟩ := hb_bind h
  refine hs_newZ (rc := 0) (rs := 0) (k := 2) dX8_init_145 wd_311 h42 (by decide) ?_
  obtain ⟨r43, h43, h⟩ := hb_bind h
  refine hs_putR dX8_init_147 lpX8_init_66 rfl h43 ?_
  obtain rfl := Option.some.inj h
  exact hs_return dX8_init_150 rfl (fun _ => rfl)
def mX8_defineClass : hb_Y := (yX8_defineClass, cX8_defineClass, 4, (some .int), [], false)
set_option maxHeartbeats 4000000 in
set_option maxRecDepth 20000 in
theorem c_X8_defineClass {G : hb_G} {l : Launch} (hl : l.stackTraces = false) {x0 : Nat} {x1 : Int32} {x2 : Int32} {x3 : Int32} {σ : hb_M} {r : ((String ⊕ Int32) × hb_M)} (h : f_X8_defineClass x0 x1 x2 x3 σ = some r) : hb_Call G l true 3 1 6 mX8_defineClass [.ref x0, .int x1, .int x2, .int x3] σ (hb_xi r) := by
  refine hb_met (by decide) (Nat.le_of_ble_eq_true rfl) ?_
  unfold f_X8_defineClass at h
  refine hs_aload_n dX8_defineClass_0 0 rfl ?_
  obtain ⟨r1, h1, h⟩ := hb_bind h
  refine hs_getR dX8_defineClass_1 lkX8_10 rfl h1 ?_
  refine hs_iload_n dX8_defineClass_4 1 rfl ?_
  refine hs_iload_n dX8_defineClass_5 2 rfl ?_
  refine hs_iload_n dX8_defineClass_6 3 rfl ?_
  obtain ⟨r2, h2, h⟩ := hb_bind h
  obtain ⟨h2, nf2, hb2⟩ := hb_on_at h2
  refine hs_callVi (μ' := mX4_problemOfClass) (mc := 0) (ms := 0) (rc := 1) (rs := 6) (As := [.int x1, .int x2, .int x3]) (rest := []) (ci := 4) dX8_defineClass_7 lmX8_70 okX4_problemOfClass rfl (by decide) rfl (Nat.le_of_ble_eq_true rfl) rfl hb2 (c_X4_problemOfClass h2) ?_
  rcases hb_xb_at h with ⟨E3, r3, h3, hr3⟩ | ⟨v3, r3, h3, h⟩
  · subst hr3
    exact hs_callSx (μ' := mX8_refuse) (mc := 1) (ms := 6) (rc := 0) (rs := 0) (As := [.int r2.1]) (rest := []) dX8_defineClass_10 lmX8_74 okX8_refuse rfl (by decide) rfl (Nat.le_of_ble_eq_true rfl) (c_X8_refuse hl h3) rfl
  refine hs_callSv (μ' := mX8_refuse) (mc := 1) (ms := 6) (rc := 0) (rs := 0) (As := [.int r2.1]) (rest := []) dX8_defineClass_10 lmX8_74 okX8_refuse rfl (by decide) rfl (Nat.le_of_ble_eq_true rfl) (c_X8_refuse hl h3) ?_
  refine hs_aload_n dX8_defineClass_13 0 rfl ?_
  obtain ⟨r4, h4, h⟩ := hb_bind h
  refine hs_getR dX8_defineClass_14 lkX8_28 rfl h4 ?_
  refine hs_aload_n dX8_defineClass_17 0 rfl ?_
  obtain ⟨r5, h5, h⟩ := hb_bind h
  refine hs_getR dX8_defineClass_18 lkX8_10 rfl h5 ?_
  obtain ⟨r6, h6, h⟩ := hb_bind h
  obtain ⟨h6, nf6, hb6⟩ := hb_on_at h6
  refine hs_callVv (μ' := mX5_save) (mc := 0) (ms := 0) (rc := 0) (rs := 0) (As := [.ref r5]) (rest := []) (ci := 5) dX8_defineClass_21 lmX8_78 okX5_save rfl (by decide) rfl (Nat.le_of_ble_eq_true rfl) rfl hb6 (c_X5_save h6) ?_
  refine hs_aload_n dX8_defineClass_24 0 rfl ?_
  obtain ⟨r7, h7, h⟩ := hb_bind h
  refine hs_getR dX8_defineClass_25 lkX8_10 rfl h7 ?_
  refine hs_iload_n dX8_defineClass_28 1 rfl ?_
  refine hs_iload_n dX8_defineClass_29 2 rfl ?_
  refine hs_iload_n dX8_defineClass_30 3 rfl ?_
  obtain ⟨r8, h8, h⟩ := hb_bind h
  obtain ⟨h8, nf8, hb8⟩ := hb_on_at h8
  refine hs_callVi (μ' := mX4_addClass) (mc := 0) (ms := 0) (rc := 0) (rs := 0) (As := [.int x1, .int x2, .int x3]) (rest := []) (ci := 4) dX8_defineClass_31 lmX8_81 okX4_addClass rfl (by decide) rfl (Nat.le_of_ble_eq_true rfl) rfl hb8 (c_X4_addClass h8) ?_
  obtain rfl := Option.some.inj h
  exact hs_ireturn dX8_defineClass_34 rfl (by rfl) (fun _ => rfl)
def mX8_classes : hb_Y := (yX8_classes, cX8_classes, 1, (some .int), [], false)
set_option maxHeartbeats 4000000 in
set_option maxRecDepth 20000 in
theorem c_X8_classes {G : hb_G} {l : Launch} {z : Bool} {x0 : Nat} {σ : hb_M} {r : (Int32 × hb_M)} (h : f_X8_classes x0 σ = some r) : hb_Call G l z 0 0 0 mX8_classes [.ref x0] σ (.inl (some (.int r.1)), r.2) := by
  refine hb_met (by decide) (Nat.le_of_ble_eq_true rfl) ?_
  unfold f_X8_classes at h
  refine hs_aload_n dX8_classes_0 0 rfl ?_
  obtain ⟨r1, h1, h⟩ := hb_bind h
  refine hs_getR dX8_classes_1 lkX8_10 rfl h1 ?_
  obtain ⟨r2, h2, h⟩ := hb_bind h
  refine hs_getI dX8_classes_4 lkX8_84 rfl h2 ?_
  obtain rfl := Option.some.inj h
  exact hs_ireturn dX8_classes_7 rfl (by rfl) (fun _ => rfl)
def mX8_classInfo : hb_Y := (yX8_classInfo, cX8_classInfo, 3, (some .int), [], false)
set_option maxHeartbeats 4000000 in
set_option maxRecDepth 20000 in
theorem c_X8_classInfo {G : hb_G} {l : Launch} (hl : l.stackTraces = false) {x0 : Nat} {x1 : Int32} {x2 : Int32} {σ : hb_M} {r : ((String ⊕ Int32) × hb_M)} (h : f_X8_classInfo x0 x1 x2 σ = some r) : hb_Call G l true 3 1 6 mX8_classInfo [.ref x0, .int x1, .int x2] σ (hb_xi r) := by
  refine hb_met (by decide) (Nat.le_of_ble_eq_true rfl) ?_
  unfold f_X8_classInfo at h
  refine hs_aload_n dX8_classInfo_0 0 rfl ?_
  obtain ⟨r1, h1, h⟩ := hb_bind h
  refine hs_getR dX8_classInfo_1 lkX8_10 rfl h1 ?_
  refine hs_iload_n dX8_classInfo_4 1 rfl ?_
  obtain ⟨r2, h2, h⟩ := hb_bind h
  obtain ⟨h2, nf2, hb2⟩ := hb_on_at h2
  refine hs_callVi (μ' := mX4_hasClass) (mc := 0) (ms := 0) (rc := 1) (rs := 6) (As := [.int x1]) (rest := []) (ci := 4) dX8_classInfo_5 lmX8_88 okX4_hasClass rfl (by decide) rfl (Nat.le_of_ble_eq_true rfl) rfl hb2 (c_X4_hasClass h2) ?_
  refine hs_iload_n dX8_classInfo_8 2 rfl ?_
  refine hs_iconst (v := (3 : Int32)) dX8_classInfo_9 (by decide) ?_
  obtain ⟨r3, h3, h⟩ := hb_bind h
  refine hs_callSi (μ' := mX8_problemOf) (mc := 0) (ms := 0) (rc := 1) (rs := 6) (As := [.int r2.1, .int x2, .int (3 : Int32)]) (rest := []) dX8_classInfo_10 lmX8_92 okX8_problemOf rfl (by decide) rfl (Nat.le_of_ble_eq_true rfl) (c_X8_problemOf h3) ?_
  rcases hb_xb_at h with ⟨E4, r4, h4, hr4⟩ | ⟨v4, r4, h4, h⟩
  · subst hr4
    exact hs_callSx (μ' := mX8_refuse) (mc := 1) (ms := 6) (rc := 0) (rs := 0) (As := [.int r3.1]) (rest := []) dX8_classInfo_13 lmX8_74 okX8_refuse rfl (by decide) rfl (Nat.le_of_ble_eq_true rfl) (c_X8_refuse hl h4) rfl
  refine hs_callSv (μ' := mX8_refuse) (mc := 1) (ms := 6) (rc := 0) (rs := 0) (As := [.int r3.1]) (rest := []) dX8_classInfo_13 lmX8_74 okX8_refuse rfl (by decide) rfl (Nat.le_of_ble_eq_true rfl) (c_X8_refuse hl h4) ?_
  refine hs_aload_n dX8_classInfo_16 0 rfl ?_
  obtain ⟨r5, h5, h⟩ := hb_bind h
  refine hs_getR dX8_classInfo_17 lkX8_10 rfl h5 ?_
  refine hs_iload_n dX8_classInfo_20 1 rfl ?_
  refine hs_iload_n dX8_classInfo_21 2 rfl ?_
  obtain ⟨r6, h6, h⟩ := hb_bind h
  obtain ⟨h6, nf6, hb6⟩ := hb_on_at h6
  refine hs_callVi (μ' := mX4_classFact) (mc := 0) (ms := 0) (rc := 0) (rs := 0) (As := [.int x1, .int x2]) (rest := []) (ci := 4) dX8_classInfo_22 lmX8_96 okX4_classFact rfl (by decide) rfl (Nat.le_of_ble_eq_true rfl) rfl hb6 (c_X4_classFact h6) ?_
  obtain rfl := Option.some.inj h
  exact hs_ireturn dX8_classInfo_25 rfl (by rfl) (fun _ => rfl)
def mX8_refuseUnless : hb_Y := (yX8_refuseUnless, cX8_refuseUnless, 1, none, [], false)
theorem okX8_refuseUnless : hb_okS mX8_refuseUnless 1 := ⟨⟨hb_w 1 (by decide +kernel) (by decide +kernel), hb_w 944 (by decide +kernel) (by decide +kernel), ⟨by decide +kernel, by decide +kernel, by decide +kernel⟩, by decide⟩, hb_w 943 (by decide +kernel) (by decide +kernel)⟩
set_option maxHeartbeats 4000000 in
set_option maxRecDepth 20000 in
theorem c_X8_refuseUnless_b9 {G : hb_G} {l : Launch} (hl : l.stackTraces = false)  {s0 : Int32} {σ : hb_M} {r : ((String ⊕ Unit) × hb_M)} (h : f_X8_refuseUnless_b9 s0 σ = some r) : hb_T G l true mX8_refuseUnless 1 1 6 9 [] [.int s0] σ (hb_xv r) := by
  unfold f_X8_refuseUnless_b9 at h
  rcases hb_xb_at h with ⟨E1, r1, h1, hr1⟩ | ⟨v1, r1, h1, h⟩
  · subst hr1
    exact hs_callSx (μ' := mX8_refuse) (mc := 1) (ms := 6) (rc := 0) (rs := 0) (As := [.int s0]) (rest := []) dX8_refuseUnless_9 lmX8_74 okX8_refuse rfl (by decide) rfl (Nat.le_of_ble_eq_true rfl) (c_X8_refuse hl h1) rfl
  refine hs_callSv (μ' := mX8_refuse) (mc := 1) (ms := 6) (rc := 0) (rs := 0) (As := [.int s0]) (rest := []) dX8_refuseUnless_9 lmX8_74 okX8_refuse rfl (by decide) rfl (Nat.le_of_ble_eq_true rfl) (c_X8_refuse hl h1) ?_
  obtain rfl := Option.some.inj h
  exact hs_return dX8_refuseUnless_12 rfl (fun _ => rfl)
set_option maxHeartbeats 4000000 in
set_option maxRecDepth 20000 in
theorem c_X8_refuseUnless {G : hb_G} {l : Launch} (hl : l.stackTraces = false) {x0 : Int32} {σ : hb_M} {r : ((String ⊕ Unit) × hb_M)} (h : f_X8_refuseUnless x0 σ = some r) : hb_Call G l true 1 1 6 mX8_refuseUnless [.int x0] σ (hb_xv r) := by
  refine hb_met (by decide) (Nat.le_of_ble_eq_true rfl) ?_
  unfold f_X8_refuseUnless at h
  refine hs_iload_n dX8_refuseUnless_0 0 rfl ?_
  refine hs_if_eq (tgt := 8) dX8_refuseUnless_1 (by decide) (fun hc1 => ?_) (fun hc1 => ?_)
  · rw [if_pos hc1] at h
    refine hs_iconst (v := (1 : Int32)) dX8_refuseUnless_8 (by decide) ?_
    refine hs_sub (lv' := []) [] rfl ?_
    exact c_X8_refuseUnless_b9 hl h
  · rw [if_neg hc1] at h
    refine hs_iconst (v := (0 : Int32)) dX8_refuseUnless_4 (by decide) ?_
    refine hs_goto (tgt := 9) dX8_refuseUnless_5 (by decide) ?_
    refine hs_sub (lv' := []) [] rfl ?_
    exact c_X8_refuseUnless_b9 hl h
def mX8_isSubclass : hb_Y := (yX8_isSubclass, cX8_isSubclass, 3, (some .boolean), [], false)
set_option maxHeartbeats 4000000 in
set_option maxRecDepth 20000 in
theorem c_X8_isSubclass_b27 {G : hb_G} {l : Launch} (hl : l.stackTraces = false)  {x0 : Nat} {x1 : Int32} {x2 : Int32} {s0 : Int32} {σ : hb_M} {r : ((String ⊕ Int32) × hb_M)} (h : f_X8_isSubclass_b27 x0 x1 x2 s0 σ = some r) : hb_T G l true mX8_isSubclass 2 1 6 27 [(0, .ref x0), (1, .int x1), (2, .int x2)] [.int s0] σ (hb_xi r) := by
  unfold f_X8_isSubclass_b27 at h
  rcases hb_xb_at h with ⟨E1, r1, h1, hr1⟩ | ⟨v1, r1, h1, h⟩
  · subst hr1
    exact hs_callSx (μ' := mX8_refuseUnless) (mc := 1) (ms := 6) (rc := 0) (rs := 0) (As := [.int s0]) (rest := []) dX8_isSubclass_27 lmX8_100 okX8_refuseUnless rfl (by decide) rfl (Nat.le_of_ble_eq_true rfl) (c_X8_refuseUnless hl h1) rfl
  refine hs_callSv (μ' := mX8_refuseUnless) (mc := 1) (ms := 6) (rc := 0) (rs := 0) (As := [.int s0]) (rest := []) dX8_isSubclass_27 lmX8_100 okX8_refuseUnless rfl (by decide) rfl (Nat.le_of_ble_eq_true rfl) (c_X8_refuseUnless hl h1) ?_
  refine hs_aload_n dX8_isSubclass_30 0 rfl ?_
  obtain ⟨r2, h2, h⟩ := hb_bind h
  refine hs_getR dX8_isSubclass_31 lkX8_10 rfl h2 ?_
  refine hs_iload_n dX8_isSubclass_34 1 rfl ?_
  refine hs_iload_n dX8_isSubclass_35 2 rfl ?_
  obtain ⟨r3, h3, h⟩ := hb_bind h
  obtain ⟨h3, nf3, hb3⟩ := hb_on_at h3
  refine hs_callVi (μ' := mX4_isBelow) (mc := 0) (ms := 0) (rc := 0) (rs := 0) (As := [.int x1, .int x2]) (rest := []) (ci := 4) dX8_isSubclass_36 lmX8_104 okX4_isBelow rfl (by decide) rfl (Nat.le_of_ble_eq_true rfl) rfl hb3 (c_X4_isBelow h3) ?_
  by_cases hc4 : r3.1 = 0 ∨ r3.1 = 1
  · rw [if_pos hc4] at h
    obtain rfl := Option.some.inj h
    exact hs_ireturn dX8_isSubclass_39 rfl (hb_zn hc4) (fun _ => rfl)
  · rw [if_neg hc4] at h
    cases h
set_option maxHeartbeats 4000000 in
set_option maxRecDepth 20000 in
theorem c_X8_isSubclass_b26 {G : hb_G} {l : Launch} (hl : l.stackTraces = false)  {x0 : Nat} {x1 : Int32} {x2 : Int32} {σ : hb_M} {r : ((String ⊕ Int32) × hb_M)} (h : f_X8_isSubclass_b26 x0 x1 x2 σ = some r) : hb_T G l true mX8_isSubclass 2 1 6 26 [(0, .ref x0), (1, .int x1), (2, .int x2)] [] σ (hb_xi r) := by
  unfold f_X8_isSubclass_b26 at h
  refine hs_iconst (v := (0 : Int32)) dX8_isSubclass_26 (by decide) ?_
  refine hs_sub (lv' := [(0, .ref x0), (1, .int x1), (2, .int x2)]) [0, 1, 2] rfl ?_
  exact c_X8_isSubclass_b27 hl h
set_option maxHeartbeats 4000000 in
set_option maxRecDepth 20000 in
theorem c_X8_isSubclass {G : hb_G} {l : Launch} (hl : l.stackTraces = false) {x0 : Nat} {x1 : Int32} {x2 : Int32} {σ : hb_M} {r : ((String ⊕ Int32) × hb_M)} (h : f_X8_isSubclass x0 x1 x2 σ = some r) : hb_Call G l true 2 1 6 mX8_isSubclass [.ref x0, .int x1, .int x2] σ (hb_xi r) := by
  refine hb_met (by decide) (Nat.le_of_ble_eq_true rfl) ?_
  unfold f_X8_isSubclass at h
  refine hs_aload_n dX8_isSubclass_0 0 rfl ?_
  obtain ⟨r1, h1, h⟩ := hb_bind h
  refine hs_getR dX8_isSubclass_1 lkX8_10 rfl h1 ?_
  refine hs_iload_n dX8_isSubclass_4 1 rfl ?_
  obtain ⟨r2, h2, h⟩ := hb_bind h
  obtain ⟨h2, nf2, hb2⟩ := hb_on_at h2
  refine hs_callVi (μ' := mX4_hasClass) (mc := 0) (ms := 0) (rc := 1) (rs := 6) (As := [.int x1]) (rest := []) (ci := 4) dX8_isSubclass_5 lmX8_88 okX4_hasClass rfl (by decide) rfl (Nat.le_of_ble_eq_true rfl) rfl hb2 (c_X4_hasClass h2) ?_
  refine hs_if_eq (tgt := 26) dX8_isSubclass_8 (by decide) (fun hc3 => ?_) (fun hc3 => ?_)
  · rw [if_pos hc3] at h
    refine hs_sub (lv' := [(0, .ref x0), (1, .int x1), (2, .int x2)]) [0, 1, 2] rfl ?_
    exact c_X8_isSubclass_b26 hl h
  · rw [if_neg hc3] at h
    refine hs_aload_n dX8_isSubclass_11 0 rfl ?_
    obtain ⟨r4, h4, h⟩ := hb_bind h
    refine hs_getR dX8_isSubclass_12 lkX8_10 rfl h4 ?_
    refine hs_iload_n dX8_isSubclass_15 2 rfl ?_
    obtain ⟨r5, h5, h⟩ := hb_bind h
    obtain ⟨h5, nf5, hb5⟩ := hb_on_at h5
    refine hs_callVi (μ' := mX4_hasClass) (mc := 0) (ms := 0) (rc := 1) (rs := 6) (As := [.int x2]) (rest := []) (ci := 4) dX8_isSubclass_16 lmX8_88 okX4_hasClass rfl (by decide) rfl (Nat.le_of_ble_eq_true rfl) rfl hb5 (c_X4_hasClass h5) ?_
    refine hs_if_eq (tgt := 26) dX8_isSubclass_19 (by decide) (fun hc6 => ?_) (fun hc6 => ?_)
    · rw [if_pos hc6] at h
      refine hs_sub (lv' := [(0, .ref x0), (1, .int x1), (2, .int x2)]) [0, 1, 2] rfl ?_
      exact c_X8_isSubclass_b26 hl h
    · rw [if_neg hc6] at h
      refine hs_iconst (v := (1 : Int32)) dX8_isSubclass_22 (by decide) ?_
      refine hs_goto (tgt := 27) dX8_isSubclass_23 (by decide) ?_
      refine hs_sub (lv' := [(0, .ref x0), (1, .int x1), (2, .int x2)]) [0, 1, 2] rfl ?_
      exact c_X8_isSubclass_b27 hl h
def mX8_newInstance : hb_Y := (yX8_newInstance, cX8_newInstance, 2, (some .int), [], false)
set_option maxHeartbeats 4000000 in
set_option maxRecDepth 20000 in
theorem c_X8_newInstance {G : hb_G} {l : Launch} (hl : l.stackTraces = false) {x0 : Nat} {x1 : Int32} {σ : hb_M} {r : ((String ⊕ Int32) × hb_M)} (h : f_X8_newInstance x0 x1 σ = some r) : hb_Call G l true 5 1 6 mX8_newInstance [.ref x0, .int x1] σ (hb_xi r) := by
  refine hb_met (by decide) (Nat.le_of_ble_eq_true rfl) ?_
  unfold f_X8_newInstance at h
  refine hs_aload_n dX8_newInstance_0 0 rfl ?_
  obtain ⟨r1, h1, h⟩ := hb_bind h
  refine hs_getR dX8_newInstance_1 lkX8_10 rfl h1 ?_
  refine hs_iload_n dX8_newInstance_4 1 rfl ?_
  obtain ⟨r2, h2, h⟩ := hb_bind h
  obtain ⟨h2, nf2, hb2⟩ := hb_on_at h2
  refine hs_callVi (μ' := mX4_problemOfInstance) (mc := 0) (ms := 0) (rc := 1) (rs := 6) (As := [.int x1]) (rest := []) (ci := 4) dX8_newInstance_5 lmX8_108 okX4_problemOfInstance rfl (by decide) rfl (Nat.le_of_ble_eq_true rfl) rfl hb2 (c_X4_problemOfInstance h2) ?_
  rcases hb_xb_at h with ⟨E3, r3, h3, hr3⟩ | ⟨v3, r3, h3, h⟩
  · subst hr3
    exact hs_callSx (μ' := mX8_refuse) (mc := 1) (ms := 6) (rc := 0) (rs := 0) (As := [.int r2.1]) (rest := []) dX8_newInstance_8 lmX8_74 okX8_refuse rfl (by decide) rfl (Nat.le_of_ble_eq_true rfl) (c_X8_refuse hl h3) rfl
  refine hs_callSv (μ' := mX8_refuse) (mc := 1) (ms := 6) (rc := 0) (rs := 0) (As := [.int r2.1]) (rest := []) dX8_newInstance_8 lmX8_74 okX8_refuse rfl (by decide) rfl (Nat.le_of_ble_eq_true rfl) (c_X8_refuse hl h3) ?_
  refine hs_aload_n dX8_newInstance_11 0 rfl ?_
  obtain ⟨r4, h4, h⟩ := hb_bind h
  refine hs_getR dX8_newInstance_12 lkX8_28 rfl h4 ?_
  refine hs_aload_n dX8_newInstance_15 0 rfl ?_
  obtain ⟨r5, h5, h⟩ := hb_bind h
  refine hs_getR dX8_newInstance_16 lkX8_10 rfl h5 ?_
  obtain ⟨r6, h6, h⟩ := hb_bind h
  obtain ⟨h6, nf6, hb6⟩ := hb_on_at h6
  refine hs_callVv (μ' := mX5_save) (mc := 0) (ms := 0) (rc := 0) (rs := 0) (As := [.ref r5]) (rest := []) (ci := 5) dX8_newInstance_19 lmX8_78 okX5_save rfl (by decide) rfl (Nat.le_of_ble_eq_true rfl) rfl hb6 (c_X5_save h6) ?_
  refine hs_aload_n dX8_newInstance_22 0 rfl ?_
  obtain ⟨r7, h7, h⟩ := hb_bind h
  refine hs_getR dX8_newInstance_23 lkX8_10 rfl h7 ?_
  refine hs_iload_n dX8_newInstance_26 1 rfl ?_
  obtain ⟨r8, h8, h⟩ := hb_bind h
  obtain ⟨h8, nf8, hb8⟩ := hb_on_at h8
  refine hs_callVi (μ' := mX4_addInstance) (mc := 0) (ms := 0) (rc := 0) (rs := 0) (As := [.int x1]) (rest := []) (ci := 4) dX8_newInstance_27 lmX8_112 okX4_addInstance rfl (by decide) rfl (Nat.le_of_ble_eq_true rfl) rfl hb8 (c_X4_addInstance h8) ?_
  obtain rfl := Option.some.inj h
  exact hs_ireturn dX8_newInstance_30 rfl (by rfl) (fun _ => rfl)
def mX8_newArray : hb_Y := (yX8_newArray, cX8_newArray, 2, (some .int), [], false)
set_option maxHeartbeats 4000000 in
set_option maxRecDepth 20000 in
theorem c_X8_newArray {G : hb_G} {l : Launch} (hl : l.stackTraces = false) {x0 : Nat} {x1 : Int32} {σ : hb_M} {r : ((String ⊕ Int32) × hb_M)} (h : f_X8_newArray x0 x1 σ = some r) : hb_Call G l true 5 1 6 mX8_newArray [.ref x0, .int x1] σ (hb_xi r) := by
  refine hb_met (by decide) (Nat.le_of_ble_eq_true rfl) ?_
  unfold f_X8_newArray at h
  refine hs_aload_n dX8_newArray_0 0 rfl ?_
  obtain ⟨r1, h1, h⟩ := hb_bind h
  refine hs_getR dX8_newArray_1 lkX8_10 rfl h1 ?_
  refine hs_iload_n dX8_newArray_4 1 rfl ?_
  obtain ⟨r2, h2, h⟩ := hb_bind h
  obtain ⟨h2, nf2, hb2⟩ := hb_on_at h2
  refine hs_callVi (μ' := mX4_problemOfArray) (mc := 0) (ms := 0) (rc := 1) (rs := 6) (As := [.int x1]) (rest := []) (ci := 4) dX8_newArray_5 lmX8_115 okX4_problemOfArray rfl (by decide) rfl (Nat.le_of_ble_eq_true rfl) rfl hb2 (c_X4_problemOfArray h2) ?_
  rcases hb_xb_at h with ⟨E3, r3, h3, hr3⟩ | ⟨v3, r3, h3, h⟩
  · subst hr3
    exact hs_callSx (μ' := mX8_refuse) (mc := 1) (ms := 6) (rc := 0) (rs := 0) (As := [.int r2.1]) (rest := []) dX8_newArray_8 lmX8_74 okX8_refuse rfl (by decide) rfl (Nat.le_of_ble_eq_true rfl) (c_X8_refuse hl h3) rfl
  refine hs_callSv (μ' := mX8_refuse) (mc := 1) (ms := 6) (rc := 0) (rs := 0) (As := [.int r2.1]) (rest := []) dX8_newArray_8 lmX8_74 okX8_refuse rfl (by decide) rfl (Nat.le_of_ble_eq_true rfl) (c_X8_refuse hl h3) ?_
  refine hs_aload_n dX8_newArray_11 0 rfl ?_
  obtain ⟨r4, h4, h⟩ := hb_bind h
  refine hs_getR dX8_newArray_12 lkX8_28 rfl h4 ?_
  refine hs_aload_n dX8_newArray_15 0 rfl ?_
  obtain ⟨r5, h5, h⟩ := hb_bind h
  refine hs_getR dX8_newArray_16 lkX8_10 rfl h5 ?_
  obtain ⟨r6, h6, h⟩ := hb_bind h
  obtain ⟨h6, nf6, hb6⟩ := hb_on_at h6
  refine hs_callVv (μ' := mX5_save) (mc := 0) (ms := 0) (rc := 0) (rs := 0) (As := [.ref r5]) (rest := []) (ci := 5) dX8_newArray_19 lmX8_78 okX5_save rfl (by decide) rfl (Nat.le_of_ble_eq_true rfl) rfl hb6 (c_X5_save h6) ?_
  refine hs_aload_n dX8_newArray_22 0 rfl ?_
  obtain ⟨r7, h7, h⟩ := hb_bind h
  refine hs_getR dX8_newArray_23 lkX8_10 rfl h7 ?_
  refine hs_iload_n dX8_newArray_26 1 rfl ?_
  obtain ⟨r8, h8, h⟩ := hb_bind h
  obtain ⟨h8, nf8, hb8⟩ := hb_on_at h8
  refine hs_callVi (μ' := mX4_addArray) (mc := 0) (ms := 0) (rc := 0) (rs := 0) (As := [.int x1]) (rest := []) (ci := 4) dX8_newArray_27 lmX8_118 okX4_addArray rfl (by decide) rfl (Nat.le_of_ble_eq_true rfl) rfl hb8 (c_X4_addArray h8) ?_
  obtain rfl := Option.some.inj h
  exact hs_ireturn dX8_newArray_30 rfl (by rfl) (fun _ => rfl)
def mX8_newHolder : hb_Y := (yX8_newHolder, cX8_newHolder, 1, (some .int), [], false)
set_option maxHeartbeats 4000000 in
set_option maxRecDepth 20000 in
theorem c_X8_newHolder {G : hb_G} {l : Launch} (hl : l.stackTraces = false) {x0 : Nat} {σ : hb_M} {r : ((String ⊕ Int32) × hb_M)} (h : f_X8_newHolder x0 σ = some r) : hb_Call G l true 4 1 6 mX8_newHolder [.ref x0] σ (hb_xi r) := by
  refine hb_met (by decide) (Nat.le_of_ble_eq_true rfl) ?_
  unfold f_X8_newHolder at h
  refine hs_aload_n dX8_newHolder_0 0 rfl ?_
  obtain ⟨r1, h1, h⟩ := hb_bind h
  refine hs_getR dX8_newHolder_1 lkX8_10 rfl h1 ?_
  obtain ⟨r2, h2, h⟩ := hb_bind h
  obtain ⟨h2, nf2, hb2⟩ := hb_on_at h2
  refine hs_callVi (μ' := mX4_problemOfHolder) (mc := 0) (ms := 0) (rc := 1) (rs := 6) (As := []) (rest := []) (ci := 4) dX8_newHolder_4 lmX8_121 okX4_problemOfHolder rfl (by decide) rfl (Nat.le_of_ble_eq_true rfl) rfl hb2 (c_X4_problemOfHolder h2) ?_
  rcases hb_xb_at h with ⟨E3, r3, h3, hr3⟩ | ⟨v3, r3, h3, h⟩
  · subst hr3
    exact hs_callSx (μ' := mX8_refuse) (mc := 1) (ms := 6) (rc := 0) (rs := 0) (As := [.int r2.1]) (rest := []) dX8_newHolder_7 lmX8_74 okX8_refuse rfl (by decide) rfl (Nat.le_of_ble_eq_true rfl) (c_X8_refuse hl h3) rfl
  refine hs_callSv (μ' := mX8_refuse) (mc := 1) (ms := 6) (rc := 0) (rs := 0) (As := [.int r2.1]) (rest := []) dX8_newHolder_7 lmX8_74 okX8_refuse rfl (by decide) rfl (Nat.le_of_ble_eq_true rfl) (c_X8_refuse hl h3) ?_
  refine hs_aload_n dX8_newHolder_10 0 rfl ?_
  obtain ⟨r4, h4, h⟩ := hb_bind h
  refine hs_getR dX8_newHolder_11 lkX8_28 rfl h4 ?_
  refine hs_aload_n dX8_newHolder_14 0 rfl ?_
  obtain ⟨r5, h5, h⟩ := hb_bind h
  refine hs_getR dX8_newHolder_15 lkX8_10 rfl h5 ?_
  obtain ⟨r6, h6, h⟩ := hb_bind h
  obtain ⟨h6, nf6, hb6⟩ := hb_on_at h6
  refine hs_callVv (μ' := mX5_save) (mc := 0) (ms := 0) (rc := 0) (rs := 0) (As := [.ref r5]) (rest := []) (ci := 5) dX8_newHolder_18 lmX8_78 okX5_save rfl (by decide) rfl (Nat.le_of_ble_eq_true rfl) rfl hb6 (c_X5_save h6) ?_
  refine hs_aload_n dX8_newHolder_21 0 rfl ?_
  obtain ⟨r7, h7, h⟩ := hb_bind h
  refine hs_getR dX8_newHolder_22 lkX8_10 rfl h7 ?_
  obtain ⟨r8, h8, h⟩ := hb_bind h
  obtain ⟨h8, nf8, hb8⟩ := hb_on_at h8
  refine hs_callVi (μ' := mX4_addHolder) (mc := 0) (ms := 0) (rc := 0) (rs := 0) (As := []) (rest := []) (ci := 4) dX8_newHolder_25 lmX8_125 okX4_addHolder rfl (by decide) rfl (Nat.le_of_ble_eq_true rfl) rfl hb8 (c_X4_addHolder h8) ?_
  obtain rfl := Option.some.inj h
  exact hs_ireturn dX8_newHolder_28 rfl (by rfl) (fun _ => rfl)
def mX8_set : hb_Y := (yX8_set, cX8_set, 4, (some .int), [], false)
set_option maxHeartbeats 4000000 in
set_option maxRecDepth 20000 in
theorem c_X8_set {G : hb_G} {l : Launch} (hl : l.stackTraces = false) {x0 : Nat} {x1 : Int32} {x2 : Int32} {x3 : Int32} {σ : hb_M} {r : ((String ⊕ Int32) × hb_M)} (h : f_X8_set x0 x1 x2 x3 σ = some r) : hb_Call G l true 3 1 6 mX8_set [.ref x0, .int x1, .int x2, .int x3] σ (hb_xi r) := by
  refine hb_met (by decide) (Nat.le_of_ble_eq_true rfl) ?_
  unfold f_X8_set at h
  refine hs_aload_n dX8_set_0 0 rfl ?_
  obtain ⟨r1, h1, h⟩ := hb_bind h
  refine hs_getR dX8_set_1 lkX8_10 rfl h1 ?_
  refine hs_iload_n dX8_set_4 1 rfl ?_
  refine hs_iload_n dX8_set_5 2 rfl ?_
  refine hs_iload_n dX8_set_6 3 rfl ?_
  obtain ⟨r2, h2, h⟩ := hb_bind h
  obtain ⟨h2, nf2, hb2⟩ := hb_on_at h2
  refine hs_callVi (μ' := mX4_problemOfTarget) (mc := 0) (ms := 0) (rc := 1) (rs := 6) (As := [.int x1, .int x2, .int x3]) (rest := []) (ci := 4) dX8_set_7 lmX8_128 okX4_problemOfTarget rfl (by decide) rfl (Nat.le_of_ble_eq_true rfl) rfl hb2 (c_X4_problemOfTarget h2) ?_
  rcases hb_xb_at h with ⟨E3, r3, h3, hr3⟩ | ⟨v3, r3, h3, h⟩
  · subst hr3
    exact hs_callSx (μ' := mX8_refuse) (mc := 1) (ms := 6) (rc := 0) (rs := 0) (As := [.int r2.1]) (rest := []) dX8_set_10 lmX8_74 okX8_refuse rfl (by decide) rfl (Nat.le_of_ble_eq_true rfl) (c_X8_refuse hl h3) rfl
  refine hs_callSv (μ' := mX8_refuse) (mc := 1) (ms := 6) (rc := 0) (rs := 0) (As := [.int r2.1]) (rest := []) dX8_set_10 lmX8_74 okX8_refuse rfl (by decide) rfl (Nat.le_of_ble_eq_true rfl) (c_X8_refuse hl h3) ?_
  refine hs_aload_n dX8_set_13 0 rfl ?_
  obtain ⟨r4, h4, h⟩ := hb_bind h
  refine hs_getR dX8_set_14 lkX8_28 rfl h4 ?_
  refine hs_aload_n dX8_set_17 0 rfl ?_
  obtain ⟨r5, h5, h⟩ := hb_bind h
  refine hs_getR dX8_set_18 lkX8_10 rfl h5 ?_
  obtain ⟨r6, h6, h⟩ := hb_bind h
  obtain ⟨h6, nf6, hb6⟩ := hb_on_at h6
  refine hs_callVv (μ' := mX5_save) (mc := 0) (ms := 0) (rc := 0) (rs := 0) (As := [.ref r5]) (rest := []) (ci := 5) dX8_set_21 lmX8_78 okX5_save rfl (by decide) rfl (Nat.le_of_ble_eq_true rfl) rfl hb6 (c_X5_save h6) ?_
  refine hs_aload_n dX8_set_24 0 rfl ?_
  obtain ⟨r7, h7, h⟩ := hb_bind h
  refine hs_getR dX8_set_25 lkX8_10 rfl h7 ?_
  refine hs_iload_n dX8_set_28 1 rfl ?_
  refine hs_iload_n dX8_set_29 2 rfl ?_
  refine hs_iload_n dX8_set_30 3 rfl ?_
  obtain ⟨r8, h8, h⟩ := hb_bind h
  obtain ⟨h8, nf8, hb8⟩ := hb_on_at h8
  refine hs_callVi (μ' := mX4_putTarget) (mc := 0) (ms := 0) (rc := 0) (rs := 0) (As := [.int x1, .int x2, .int x3]) (rest := []) (ci := 4) dX8_set_31 lmX8_131 okX4_putTarget rfl (by decide) rfl (Nat.le_of_ble_eq_true rfl) rfl hb8 (c_X4_putTarget h8) ?_
  obtain rfl := Option.some.inj h
  exact hs_ireturn dX8_set_34 rfl (by rfl) (fun _ => rfl)
def mX8_get : hb_Y := (yX8_get, cX8_get, 3, (some .int), [], false)
set_option maxHeartbeats 4000000 in
set_option maxRecDepth 20000 in
theorem c_X8_get {G : hb_G} {l : Launch} (hl : l.stackTraces = false) {x0 : Nat} {x1 : Int32} {x2 : Int32} {σ : hb_M} {r : ((String ⊕ Int32) × hb_M)} (h : f_X8_get x0 x1 x2 σ = some r) : hb_Call G l true 3 1 6 mX8_get [.ref x0, .int x1, .int x2] σ (hb_xi r) := by
  refine hb_met (by decide) (Nat.le_of_ble_eq_true rfl) ?_
  unfold f_X8_get at h
  refine hs_aload_n dX8_get_0 0 rfl ?_
  obtain ⟨r1, h1, h⟩ := hb_bind h
  refine hs_getR dX8_get_1 lkX8_10 rfl h1 ?_
  refine hs_iload_n dX8_get_4 1 rfl ?_
  refine hs_iload_n dX8_get_5 2 rfl ?_
  obtain ⟨r2, h2, h⟩ := hb_bind h
  obtain ⟨h2, nf2, hb2⟩ := hb_on_at h2
  refine hs_callVi (μ' := mX4_hasSlot) (mc := 0) (ms := 0) (rc := 1) (rs := 6) (As := [.int x1, .int x2]) (rest := []) (ci := 4) dX8_get_6 lmX8_134 okX4_hasSlot rfl (by decide) rfl (Nat.le_of_ble_eq_true rfl) rfl hb2 (c_X4_hasSlot h2) ?_
  rcases hb_xb_at h with ⟨E3, r3, h3, hr3⟩ | ⟨v3, r3, h3, h⟩
  · subst hr3
    exact hs_callSx (μ' := mX8_refuseUnless) (mc := 1) (ms := 6) (rc := 0) (rs := 0) (As := [.int r2.1]) (rest := []) dX8_get_9 lmX8_100 okX8_refuseUnless rfl (by decide) rfl (Nat.le_of_ble_eq_true rfl) (c_X8_refuseUnless hl h3) rfl
  refine hs_callSv (μ' := mX8_refuseUnless) (mc := 1) (ms := 6) (rc := 0) (rs := 0) (As := [.int r2.1]) (rest := []) dX8_get_9 lmX8_100 okX8_refuseUnless rfl (by decide) rfl (Nat.le_of_ble_eq_true rfl) (c_X8_refuseUnless hl h3) ?_
  refine hs_aload_n dX8_get_12 0 rfl ?_
  obtain ⟨r4, h4, h⟩ := hb_bind h
  refine hs_getR dX8_get_13 lkX8_10 rfl h4 ?_
  refine hs_iload_n dX8_get_16 1 rfl ?_
  refine hs_iload_n dX8_get_17 2 rfl ?_
  obtain ⟨r5, h5, h⟩ := hb_bind h
  obtain ⟨h5, nf5, hb5⟩ := hb_on_at h5
  refine hs_callVi (μ' := mX4_targetOf) (mc := 0) (ms := 0) (rc := 0) (rs := 0) (As := [.int x1, .int x2]) (rest := []) (ci := 4) dX8_get_18 lmX8_137 okX4_targetOf rfl (by decide) rfl (Nat.le_of_ble_eq_true rfl) rfl hb5 (c_X4_targetOf h5) ?_
  obtain rfl := Option.some.inj h
  exact hs_ireturn dX8_get_21 rfl (by rfl) (fun _ => rfl)
def mX8_resizeArray : hb_Y := (yX8_resizeArray, cX8_resizeArray, 3, (some .int), [], false)
set_option maxHeartbeats 4000000 in
set_option maxRecDepth 20000 in
theorem c_X8_resizeArray {G : hb_G} {l : Launch} (hl : l.stackTraces = false) {x0 : Nat} {x1 : Int32} {x2 : Int32} {σ : hb_M} {r : ((String ⊕ Int32) × hb_M)} (h : f_X8_resizeArray x0 x1 x2 σ = some r) : hb_Call G l true 3 1 6 mX8_resizeArray [.ref x0, .int x1, .int x2] σ (hb_xi r) := by
  refine hb_met (by decide) (Nat.le_of_ble_eq_true rfl) ?_
  unfold f_X8_resizeArray at h
  refine hs_aload_n dX8_resizeArray_0 0 rfl ?_
  obtain ⟨r1, h1, h⟩ := hb_bind h
  refine hs_getR dX8_resizeArray_1 lkX8_10 rfl h1 ?_
  refine hs_iload_n dX8_resizeArray_4 1 rfl ?_
  refine hs_iload_n dX8_resizeArray_5 2 rfl ?_
  obtain ⟨r2, h2, h⟩ := hb_bind h
  obtain ⟨h2, nf2, hb2⟩ := hb_on_at h2
  refine hs_callVi (μ' := mX4_problemOfLength) (mc := 0) (ms := 0) (rc := 1) (rs := 6) (As := [.int x1, .int x2]) (rest := []) (ci := 4) dX8_resizeArray_6 lmX8_140 okX4_problemOfLength rfl (by decide) rfl (Nat.le_of_ble_eq_true rfl) rfl hb2 (c_X4_problemOfLength h2) ?_
  rcases hb_xb_at h with ⟨E3, r3, h3, hr3⟩ | ⟨v3, r3, h3, h⟩
  · subst hr3
    exact hs_callSx (μ' := mX8_refuse) (mc := 1) (ms := 6) (rc := 0) (rs := 0) (As := [.int r2.1]) (rest := []) dX8_resizeArray_9 lmX8_74 okX8_refuse rfl (by decide) rfl (Nat.le_of_ble_eq_true rfl) (c_X8_refuse hl h3) rfl
  refine hs_callSv (μ' := mX8_refuse) (mc := 1) (ms := 6) (rc := 0) (rs := 0) (As := [.int r2.1]) (rest := []) dX8_resizeArray_9 lmX8_74 okX8_refuse rfl (by decide) rfl (Nat.le_of_ble_eq_true rfl) (c_X8_refuse hl h3) ?_
  refine hs_aload_n dX8_resizeArray_12 0 rfl ?_
  obtain ⟨r4, h4, h⟩ := hb_bind h
  refine hs_getR dX8_resizeArray_13 lkX8_28 rfl h4 ?_
  refine hs_aload_n dX8_resizeArray_16 0 rfl ?_
  obtain ⟨r5, h5, h⟩ := hb_bind h
  refine hs_getR dX8_resizeArray_17 lkX8_10 rfl h5 ?_
  obtain ⟨r6, h6, h⟩ := hb_bind h
  obtain ⟨h6, nf6, hb6⟩ := hb_on_at h6
  refine hs_callVv (μ' := mX5_save) (mc := 0) (ms := 0) (rc := 0) (rs := 0) (As := [.ref r5]) (rest := []) (ci := 5) dX8_resizeArray_20 lmX8_78 okX5_save rfl (by decide) rfl (Nat.le_of_ble_eq_true rfl) rfl hb6 (c_X5_save h6) ?_
  refine hs_aload_n dX8_resizeArray_23 0 rfl ?_
  obtain ⟨r7, h7, h⟩ := hb_bind h
  refine hs_getR dX8_resizeArray_24 lkX8_10 rfl h7 ?_
  refine hs_iload_n dX8_resizeArray_27 1 rfl ?_
  refine hs_iload_n dX8_resizeArray_28 2 rfl ?_
  obtain ⟨r8, h8, h⟩ := hb_bind h
  obtain ⟨h8, nf8, hb8⟩ := hb_on_at h8
  refine hs_callVi (μ' := mX4_putLength) (mc := 0) (ms := 0) (rc := 0) (rs := 0) (As := [.int x1, .int x2]) (rest := []) (ci := 4) dX8_resizeArray_29 lmX8_143 okX4_putLength rfl (by decide) rfl (Nat.le_of_ble_eq_true rfl) rfl hb8 (c_X4_putLength h8) ?_
  obtain rfl := Option.some.inj h
  exact hs_ireturn dX8_resizeArray_32 rfl (by rfl) (fun _ => rfl)
def mX8_referent : hb_Y := (yX8_referent, cX8_referent, 2, (some .int), [], false)
set_option maxHeartbeats 4000000 in
set_option maxRecDepth 20000 in
theorem c_X8_referent_b30 {G : hb_G} {l : Launch} (hl : l.stackTraces = false)  {x0 : Nat} {x1 : Int32} {s0 : Int32} {σ : hb_M} {r : ((String ⊕ Int32) × hb_M)} (h : f_X8_referent_b30 x0 x1 s0 σ = some r) : hb_T G l true mX8_referent 3 1 6 30 [(0, .ref x0), (1, .int x1)] [.int s0] σ (hb_xi r) := by
  unfold f_X8_referent_b30 at h
  rcases hb_xb_at h with ⟨E1, r1, h1, hr1⟩ | ⟨v1, r1, h1, h⟩
  · subst hr1
    exact hs_callSx (μ' := mX8_refuse) (mc := 1) (ms := 6) (rc := 0) (rs := 0) (As := [.int s0]) (rest := []) dX8_referent_30 lmX8_74 okX8_refuse rfl (by decide) rfl (Nat.le_of_ble_eq_true rfl) (c_X8_refuse hl h1) rfl
  refine hs_callSv (μ' := mX8_refuse) (mc := 1) (ms := 6) (rc := 0) (rs := 0) (As := [.int s0]) (rest := []) dX8_referent_30 lmX8_74 okX8_refuse rfl (by decide) rfl (Nat.le_of_ble_eq_true rfl) (c_X8_refuse hl h1) ?_
  refine hs_aload_n dX8_referent_33 0 rfl ?_
  obtain ⟨r2, h2, h⟩ := hb_bind h
  refine hs_getR dX8_referent_34 lkX8_10 rfl h2 ?_
  refine hs_iload_n dX8_referent_37 1 rfl ?_
  refine hs_iconst (v := (0 : Int32)) dX8_referent_38 (by decide) ?_
  obtain ⟨r3, h3, h⟩ := hb_bind h
  obtain ⟨h3, nf3, hb3⟩ := hb_on_at h3
  refine hs_callVi (μ' := mX4_targetOf) (mc := 0) (ms := 0) (rc := 0) (rs := 0) (As := [.int x1, .int (0 : Int32)]) (rest := []) (ci := 4) dX8_referent_39 lmX8_137 okX4_targetOf rfl (by decide) rfl (Nat.le_of_ble_eq_true rfl) rfl hb3 (c_X4_targetOf h3) ?_
  obtain rfl := Option.some.inj h
  exact hs_ireturn dX8_referent_42 rfl (by rfl) (fun _ => rfl)
set_option maxHeartbeats 4000000 in
set_option maxRecDepth 20000 in
theorem c_X8_referent {G : hb_G} {l : Launch} (hl : l.stackTraces = false) {x0 : Nat} {x1 : Int32} {σ : hb_M} {r : ((String ⊕ Int32) × hb_M)} (h : f_X8_referent x0 x1 σ = some r) : hb_Call G l true 3 2 12 mX8_referent [.ref x0, .int x1] σ (hb_xi r) := by
  refine hb_met (by decide) (Nat.le_of_ble_eq_true rfl) ?_
  unfold f_X8_referent at h
  refine hs_aload_n dX8_referent_0 0 rfl ?_
  obtain ⟨r1, h1, h⟩ := hb_bind h
  refine hs_getR dX8_referent_1 lkX8_10 rfl h1 ?_
  refine hs_iload_n dX8_referent_4 1 rfl ?_
  obtain ⟨r2, h2, h⟩ := hb_bind h
  obtain ⟨h2, nf2, hb2⟩ := hb_on_at h2
  refine hs_callVi (μ' := mX4_hasObject) (mc := 0) (ms := 0) (rc := 2) (rs := 12) (As := [.int x1]) (rest := []) (ci := 4) dX8_referent_5 lmX8_146 okX4_hasObject rfl (by decide) rfl (Nat.le_of_ble_eq_true rfl) rfl hb2 (c_X4_hasObject h2) ?_
  rcases hb_xb_at h with ⟨E3, r3, h3, hr3⟩ | ⟨v3, r3, h3, h⟩
  · subst hr3
    exact hs_callSx (μ' := mX8_refuseUnless) (mc := 1) (ms := 6) (rc := 1) (rs := 6) (As := [.int r2.1]) (rest := []) dX8_referent_8 lmX8_100 okX8_refuseUnless rfl (by decide) rfl (Nat.le_of_ble_eq_true rfl) (c_X8_refuseUnless hl h3) rfl
  refine hs_callSv (μ' := mX8_refuseUnless) (mc := 1) (ms := 6) (rc := 1) (rs := 6) (As := [.int r2.1]) (rest := []) dX8_referent_8 lmX8_100 okX8_refuseUnless rfl (by decide) rfl (Nat.le_of_ble_eq_true rfl) (c_X8_refuseUnless hl h3) ?_
  refine hs_aload_n dX8_referent_11 0 rfl ?_
  obtain ⟨r4, h4, h⟩ := hb_bind h
  refine hs_getR dX8_referent_12 lkX8_10 rfl h4 ?_
  obtain ⟨r5, h5, h⟩ := hb_bind h
  refine hs_getR dX8_referent_15 lkX8_149 rfl h5 ?_
  refine hs_iload_n dX8_referent_18 1 rfl ?_
  obtain ⟨r6, h6, h⟩ := hb_bind h
  refine hs_iald dX8_referent_19 h6 ?_
  refine hs_bipush (v := (11 : Int32)) dX8_referent_20 (by decide) ?_
  refine hs_icmp_ne (tgt := 29) dX8_referent_22 (by decide) (fun hc7 => ?_) (fun hc7 => ?_)
  · rw [if_neg hc7] at h
    refine hs_iconst (v := (3 : Int32)) dX8_referent_29 (by decide) ?_
    refine hs_sub (lv' := [(0, .ref x0), (1, .int x1)]) [0, 1] rfl ?_
    exact c_X8_referent_b30 hl h
  · rw [if_pos hc7] at h
    refine hs_iconst (v := (0 : Int32)) dX8_referent_25 (by decide) ?_
    refine hs_goto (tgt := 30) dX8_referent_26 (by decide) ?_
    refine hs_sub (lv' := [(0, .ref x0), (1, .int x1)]) [0, 1] rfl ?_
    exact c_X8_referent_b30 hl h
def mX8_addRoot : hb_Y := (yX8_addRoot, cX8_addRoot, 3, (some .int), [], false)
set_option maxHeartbeats 4000000 in
set_option maxRecDepth 20000 in
theorem c_X8_addRoot {G : hb_G} {l : Launch} (hl : l.stackTraces = false) {x0 : Nat} {x1 : Int32} {x2 : Int32} {σ : hb_M} {r : ((String ⊕ Int32) × hb_M)} (h : f_X8_addRoot x0 x1 x2 σ = some r) : hb_Call G l true 3 1 6 mX8_addRoot [.ref x0, .int x1, .int x2] σ (hb_xi r) := by
  refine hb_met (by decide) (Nat.le_of_ble_eq_true rfl) ?_
  unfold f_X8_addRoot at h
  refine hs_aload_n dX8_addRoot_0 0 rfl ?_
  obtain ⟨r1, h1, h⟩ := hb_bind h
  refine hs_getR dX8_addRoot_1 lkX8_10 rfl h1 ?_
  refine hs_iload_n dX8_addRoot_4 1 rfl ?_
  refine hs_iload_n dX8_addRoot_5 2 rfl ?_
  obtain ⟨r2, h2, h⟩ := hb_bind h
  obtain ⟨h2, nf2, hb2⟩ := hb_on_at h2
  refine hs_callVi (μ' := mX4_problemOfRoot) (mc := 0) (ms := 0) (rc := 1) (rs := 6) (As := [.int x1, .int x2]) (rest := []) (ci := 4) dX8_addRoot_6 lmX8_153 okX4_problemOfRoot rfl (by decide) rfl (Nat.le_of_ble_eq_true rfl) rfl hb2 (c_X4_problemOfRoot h2) ?_
  rcases hb_xb_at h with ⟨E3, r3, h3, hr3⟩ | ⟨v3, r3, h3, h⟩
  · subst hr3
    exact hs_callSx (μ' := mX8_refuse) (mc := 1) (ms := 6) (rc := 0) (rs := 0) (As := [.int r2.1]) (rest := []) dX8_addRoot_9 lmX8_74 okX8_refuse rfl (by decide) rfl (Nat.le_of_ble_eq_true rfl) (c_X8_refuse hl h3) rfl
  refine hs_callSv (μ' := mX8_refuse) (mc := 1) (ms := 6) (rc := 0) (rs := 0) (As := [.int r2.1]) (rest := []) dX8_addRoot_9 lmX8_74 okX8_refuse rfl (by decide) rfl (Nat.le_of_ble_eq_true rfl) (c_X8_refuse hl h3) ?_
  refine hs_aload_n dX8_addRoot_12 0 rfl ?_
  obtain ⟨r4, h4, h⟩ := hb_bind h
  refine hs_getR dX8_addRoot_13 lkX8_28 rfl h4 ?_
  refine hs_aload_n dX8_addRoot_16 0 rfl ?_
  obtain ⟨r5, h5, h⟩ := hb_bind h
  refine hs_getR dX8_addRoot_17 lkX8_10 rfl h5 ?_
  obtain ⟨r6, h6, h⟩ := hb_bind h
  obtain ⟨h6, nf6, hb6⟩ := hb_on_at h6
  refine hs_callVv (μ' := mX5_save) (mc := 0) (ms := 0) (rc := 0) (rs := 0) (As := [.ref r5]) (rest := []) (ci := 5) dX8_addRoot_20 lmX8_78 okX5_save rfl (by decide) rfl (Nat.le_of_ble_eq_true rfl) rfl hb6 (c_X5_save h6) ?_
  refine hs_aload_n dX8_addRoot_23 0 rfl ?_
  obtain ⟨r7, h7, h⟩ := hb_bind h
  refine hs_getR dX8_addRoot_24 lkX8_10 rfl h7 ?_
  refine hs_iload_n dX8_addRoot_27 1 rfl ?_
  refine hs_aload_n dX8_addRoot_28 0 rfl ?_
  obtain ⟨r8, h8, h⟩ := hb_bind h
  refine hs_getR dX8_addRoot_29 lkX8_10 rfl h8 ?_
  obtain ⟨r9, h9, h⟩ := hb_bind h
  refine hs_getR dX8_addRoot_32 lkX8_156 rfl h9 ?_
  refine hs_iload_n dX8_addRoot_35 1 rfl ?_
  obtain ⟨r10, h10, h⟩ := hb_bind h
  refine hs_iald dX8_addRoot_36 h10 ?_
  refine hs_iconst (v := (1 : Int32)) dX8_addRoot_37 (by decide) ?_
  refine hs_iload_n dX8_addRoot_38 2 rfl ?_
  refine hs_ishl dX8_addRoot_39 ?_
  refine hs_ior dX8_addRoot_40 ?_
  obtain ⟨r11, h11, h⟩ := hb_bind h
  obtain ⟨h11, nf11, hb11⟩ := hb_on_at h11
  refine hs_callVi (μ' := mX4_putRoots) (mc := 0) (ms := 0) (rc := 0) (rs := 0) (As := [.int x1, .int (r10 ||| ((1 : Int32) <<< (x2 &&& 31)))]) (rest := []) (ci := 4) dX8_addRoot_41 lmX8_159 okX4_putRoots rfl (by decide) rfl (Nat.le_of_ble_eq_true rfl) rfl hb11 (c_X4_putRoots h11) ?_
  obtain rfl := Option.some.inj h
  exact hs_ireturn dX8_addRoot_44 rfl (by rfl) (fun _ => rfl)
def mX8_removeRoot : hb_Y := (yX8_removeRoot, cX8_removeRoot, 3, (some .int), [], false)
set_option maxHeartbeats 4000000 in
set_option maxRecDepth 20000 in
theorem c_X8_removeRoot {G : hb_G} {l : Launch} (hl : l.stackTraces = false) {x0 : Nat} {x1 : Int32} {x2 : Int32} {σ : hb_M} {r : ((String ⊕ Int32) × hb_M)} (h : f_X8_removeRoot x0 x1 x2 σ = some r) : hb_Call G l true 3 1 6 mX8_removeRoot [.ref x0, .int x1, .int x2] σ (hb_xi r) := by
  refine hb_met (by decide) (Nat.le_of_ble_eq_true rfl) ?_
  unfold f_X8_removeRoot at h
  refine hs_aload_n dX8_removeRoot_0 0 rfl ?_
  obtain ⟨r1, h1, h⟩ := hb_bind h
  refine hs_getR dX8_removeRoot_1 lkX8_10 rfl h1 ?_
  refine hs_iload_n dX8_removeRoot_4 1 rfl ?_
  refine hs_iload_n dX8_removeRoot_5 2 rfl ?_
  obtain ⟨r2, h2, h⟩ := hb_bind h
  obtain ⟨h2, nf2, hb2⟩ := hb_on_at h2
  refine hs_callVi (μ' := mX4_problemOfUnrooting) (mc := 0) (ms := 0) (rc := 1) (rs := 6) (As := [.int x1, .int x2]) (rest := []) (ci := 4) dX8_removeRoot_6 lmX8_162 okX4_problemOfUnrooting rfl (by decide) rfl (Nat.le_of_ble_eq_true rfl) rfl hb2 (c_X4_problemOfUnrooting h2) ?_
  rcases hb_xb_at h with ⟨E3, r3, h3, hr3⟩ | ⟨v3, r3, h3, h⟩
  · subst hr3
    exact hs_callSx (μ' := mX8_refuse) (mc := 1) (ms := 6) (rc := 0) (rs := 0) (As := [.int r2.1]) (rest := []) dX8_removeRoot_9 lmX8_74 okX8_refuse rfl (by decide) rfl (Nat.le_of_ble_eq_true rfl) (c_X8_refuse hl h3) rfl
  refine hs_callSv (μ' := mX8_refuse) (mc := 1) (ms := 6) (rc := 0) (rs := 0) (As := [.int r2.1]) (rest := []) dX8_removeRoot_9 lmX8_74 okX8_refuse rfl (by decide) rfl (Nat.le_of_ble_eq_true rfl) (c_X8_refuse hl h3) ?_
  refine hs_aload_n dX8_removeRoot_12 0 rfl ?_
  obtain ⟨r4, h4, h⟩ := hb_bind h
  refine hs_getR dX8_removeRoot_13 lkX8_28 rfl h4 ?_
  refine hs_aload_n dX8_removeRoot_16 0 rfl ?_
  obtain ⟨r5, h5, h⟩ := hb_bind h
  refine hs_getR dX8_removeRoot_17 lkX8_10 rfl h5 ?_
  obtain ⟨r6, h6, h⟩ := hb_bind h
  obtain ⟨h6, nf6, hb6⟩ := hb_on_at h6
  refine hs_callVv (μ' := mX5_save) (mc := 0) (ms := 0) (rc := 0) (rs := 0) (As := [.ref r5]) (rest := []) (ci := 5) dX8_removeRoot_20 lmX8_78 okX5_save rfl (by decide) rfl (Nat.le_of_ble_eq_true rfl) rfl hb6 (c_X5_save h6) ?_
  refine hs_aload_n dX8_removeRoot_23 0 rfl ?_
  obtain ⟨r7, h7, h⟩ := hb_bind h
  refine hs_getR dX8_removeRoot_24 lkX8_10 rfl h7 ?_
  refine hs_iload_n dX8_removeRoot_27 1 rfl ?_
  refine hs_aload_n dX8_removeRoot_28 0 rfl ?_
  obtain ⟨r8, h8, h⟩ := hb_bind h
  refine hs_getR dX8_removeRoot_29 lkX8_10 rfl h8 ?_
  obtain ⟨r9, h9, h⟩ := hb_bind h
  refine hs_getR dX8_removeRoot_32 lkX8_156 rfl h9 ?_
  refine hs_iload_n dX8_removeRoot_35 1 rfl ?_
  obtain ⟨r10, h10, h⟩ := hb_bind h
  refine hs_iald dX8_removeRoot_36 h10 ?_
  refine hs_iconst (v := (1 : Int32)) dX8_removeRoot_37 (by decide) ?_
  refine hs_iload_n dX8_removeRoot_38 2 rfl ?_
  refine hs_ishl dX8_removeRoot_39 ?_
  refine hs_iconst (v := (-1 : Int32)) dX8_removeRoot_40 (by decide) ?_
  refine hs_ixor dX8_removeRoot_41 ?_
  refine hs_iand dX8_removeRoot_42 ?_
  obtain ⟨r11, h11, h⟩ := hb_bind h
  obtain ⟨h11, nf11, hb11⟩ := hb_on_at h11
  refine hs_callVi (μ' := mX4_putRoots) (mc := 0) (ms := 0) (rc := 0) (rs := 0) (As := [.int x1, .int (r10 &&& (((1 : Int32) <<< (x2 &&& 31)) ^^^ (-1 : Int32)))]) (rest := []) (ci := 4) dX8_removeRoot_43 lmX8_159 okX4_putRoots rfl (by decide) rfl (Nat.le_of_ble_eq_true rfl) rfl hb11 (c_X4_putRoots h11) ?_
  obtain rfl := Option.some.inj h
  exact hs_ireturn dX8_removeRoot_46 rfl (by rfl) (fun _ => rfl)
def mX8_collect : hb_Y := (yX8_collect, cX8_collect, 1, (some .int), [], false)
set_option maxHeartbeats 4000000 in
set_option maxRecDepth 20000 in
theorem c_X8_collect {G : hb_G} {l : Launch} {z : Bool} {x0 : Nat} {σ : hb_M} {r : (Int32 × hb_M)} (h : f_X8_collect x0 σ = some r) : hb_Call G l z 5 0 0 mX8_collect [.ref x0] σ (.inl (some (.int r.1)), r.2) := by
  refine hb_met (by decide) (Nat.le_of_ble_eq_true rfl) ?_
  unfold f_X8_collect at h
  refine hs_aload_n dX8_collect_0 0 rfl ?_
  obtain ⟨r1, h1, h⟩ := hb_bind h
  refine hs_getR dX8_collect_1 lkX8_28 rfl h1 ?_
  refine hs_aload_n dX8_collect_4 0 rfl ?_
  obtain ⟨r2, h2, h⟩ := hb_bind h
  refine hs_getR dX8_collect_5 lkX8_10 rfl h2 ?_
  obtain ⟨r3, h3, h⟩ := hb_bind h
  obtain ⟨h3, nf3, hb3⟩ := hb_on_at h3
  refine hs_callVv (μ' := mX5_save) (mc := 0) (ms := 0) (rc := 0) (rs := 0) (As := [.ref r2]) (rest := []) (ci := 5) dX8_collect_8 lmX8_78 okX5_save rfl (by decide) rfl (Nat.le_of_ble_eq_true rfl) rfl hb3 (c_X5_save h3) ?_
  refine hs_aload_n dX8_collect_11 0 rfl ?_
  obtain ⟨r4, h4, h⟩ := hb_bind h
  refine hs_getR dX8_collect_12 lkX8_21 rfl h4 ?_
  obtain ⟨r5, h5, h⟩ := hb_bind h
  obtain ⟨h5, nf5, hb5⟩ := hb_on_at h5
  refine hs_callVi (μ' := mX0_removeGarbage) (mc := 0) (ms := 0) (rc := 0) (rs := 0) (As := []) (rest := []) (ci := 0) dX8_collect_15 lmX8_165 okX0_removeGarbage rfl (by decide) rfl (Nat.le_of_ble_eq_true rfl) rfl hb5 (c_X0_removeGarbage h5) ?_
  obtain rfl := Option.some.inj h
  exact hs_ireturn dX8_collect_18 rfl (by rfl) (fun _ => rfl)
def mX8_objects : hb_Y := (yX8_objects, cX8_objects, 1, (some .int), [], false)
set_option maxHeartbeats 4000000 in
set_option maxRecDepth 20000 in
theorem c_X8_objects {G : hb_G} {l : Launch} {z : Bool} {x0 : Nat} {σ : hb_M} {r : (Int32 × hb_M)} (h : f_X8_objects x0 σ = some r) : hb_Call G l z 3 0 0 mX8_objects [.ref x0] σ (.inl (some (.int r.1)), r.2) := by
  refine hb_met (by decide) (Nat.le_of_ble_eq_true rfl) ?_
  unfold f_X8_objects at h
  refine hs_aload_n dX8_objects_0 0 rfl ?_
  obtain ⟨r1, h1, h⟩ := hb_bind h
  refine hs_getR dX8_objects_1 lkX8_10 rfl h1 ?_
  obtain ⟨r2, h2, h⟩ := hb_bind h
  obtain ⟨h2, nf2, hb2⟩ := hb_on_at h2
  refine hs_callVi (μ' := mX4_objectCount) (mc := 0) (ms := 0) (rc := 0) (rs := 0) (As := []) (rest := []) (ci := 4) dX8_objects_4 lmX8_168 okX4_objectCount rfl (by decide) rfl (Nat.le_of_ble_eq_true rfl) rfl hb2 (c_X4_objectCount h2) ?_
  obtain rfl := Option.some.inj h
  exact hs_ireturn dX8_objects_7 rfl (by rfl) (fun _ => rfl)
def mX8_exists : hb_Y := (yX8_exists, cX8_exists, 2, (some .boolean), [], false)
set_option maxHeartbeats 4000000 in
set_option maxRecDepth 20000 in
theorem c_X8_exists {G : hb_G} {l : Launch} {z : Bool} {x0 : Nat} {x1 : Int32} {σ : hb_M} {r : (Int32 × hb_M)} (h : f_X8_exists x0 x1 σ = some r) : hb_Call G l z 1 0 0 mX8_exists [.ref x0, .int x1] σ (.inl (some (.int r.1)), r.2) := by
  refine hb_met (by decide) (Nat.le_of_ble_eq_true rfl) ?_
  unfold f_X8_exists at h
  refine hs_aload_n dX8_exists_0 0 rfl ?_
  obtain ⟨r1, h1, h⟩ := hb_bind h
  refine hs_getR dX8_exists_1 lkX8_10 rfl h1 ?_
  refine hs_iload_n dX8_exists_4 1 rfl ?_
  obtain ⟨r2, h2, h⟩ := hb_bind h
  obtain ⟨h2, nf2, hb2⟩ := hb_on_at h2
  refine hs_callVi (μ' := mX4_hasObject) (mc := 0) (ms := 0) (rc := 0) (rs := 0) (As := [.int x1]) (rest := []) (ci := 4) dX8_exists_5 lmX8_146 okX4_hasObject rfl (by decide) rfl (Nat.le_of_ble_eq_true rfl) rfl hb2 (c_X4_hasObject h2) ?_
  obtain ⟨rfl, hn⟩ := hb_zr_at h
  exact hs_ireturn dX8_exists_8 rfl hn (fun _ => rfl)
def mX8_objectInfo : hb_Y := (yX8_objectInfo, cX8_objectInfo, 3, (some .int), [], false)
set_option maxHeartbeats 4000000 in
set_option maxRecDepth 20000 in
theorem c_X8_objectInfo {G : hb_G} {l : Launch} (hl : l.stackTraces = false) {x0 : Nat} {x1 : Int32} {x2 : Int32} {σ : hb_M} {r : ((String ⊕ Int32) × hb_M)} (h : f_X8_objectInfo x0 x1 x2 σ = some r) : hb_Call G l true 4 1 6 mX8_objectInfo [.ref x0, .int x1, .int x2] σ (hb_xi r) := by
  refine hb_met (by decide) (Nat.le_of_ble_eq_true rfl) ?_
  unfold f_X8_objectInfo at h
  refine hs_aload_n dX8_objectInfo_0 0 rfl ?_
  obtain ⟨r1, h1, h⟩ := hb_bind h
  refine hs_getR dX8_objectInfo_1 lkX8_10 rfl h1 ?_
  refine hs_iload_n dX8_objectInfo_4 1 rfl ?_
  obtain ⟨r2, h2, h⟩ := hb_bind h
  obtain ⟨h2, nf2, hb2⟩ := hb_on_at h2
  refine hs_callVi (μ' := mX4_hasObject) (mc := 0) (ms := 0) (rc := 1) (rs := 6) (As := [.int x1]) (rest := []) (ci := 4) dX8_objectInfo_5 lmX8_146 okX4_hasObject rfl (by decide) rfl (Nat.le_of_ble_eq_true rfl) rfl hb2 (c_X4_hasObject h2) ?_
  refine hs_iload_n dX8_objectInfo_8 2 rfl ?_
  refine hs_bipush (v := (7 : Int32)) dX8_objectInfo_9 (by decide) ?_
  obtain ⟨r3, h3, h⟩ := hb_bind h
  refine hs_callSi (μ' := mX8_problemOf) (mc := 0) (ms := 0) (rc := 1) (rs := 6) (As := [.int r2.1, .int x2, .int (7 : Int32)]) (rest := []) dX8_objectInfo_11 lmX8_92 okX8_problemOf rfl (by decide) rfl (Nat.le_of_ble_eq_true rfl) (c_X8_problemOf h3) ?_
  rcases hb_xb_at h with ⟨E4, r4, h4, hr4⟩ | ⟨v4, r4, h4, h⟩
  · subst hr4
    exact hs_callSx (μ' := mX8_refuse) (mc := 1) (ms := 6) (rc := 0) (rs := 0) (As := [.int r3.1]) (rest := []) dX8_objectInfo_14 lmX8_74 okX8_refuse rfl (by decide) rfl (Nat.le_of_ble_eq_true rfl) (c_X8_refuse hl h4) rfl
  refine hs_callSv (μ' := mX8_refuse) (mc := 1) (ms := 6) (rc := 0) (rs := 0) (As := [.int r3.1]) (rest := []) dX8_objectInfo_14 lmX8_74 okX8_refuse rfl (by decide) rfl (Nat.le_of_ble_eq_true rfl) (c_X8_refuse hl h4) ?_
  refine hs_aload_n dX8_objectInfo_17 0 rfl ?_
  obtain ⟨r5, h5, h⟩ := hb_bind h
  refine hs_getR dX8_objectInfo_18 lkX8_21 rfl h5 ?_
  obtain ⟨r6, h6, h⟩ := hb_bind h
  obtain ⟨h6, nf6, hb6⟩ := hb_on_at h6
  refine hs_callVv (μ' := mX0_refresh) (mc := 0) (ms := 0) (rc := 0) (rs := 0) (As := []) (rest := []) (ci := 0) dX8_objectInfo_21 lmX8_171 okX0_refresh rfl (by decide) rfl (Nat.le_of_ble_eq_true rfl) rfl hb6 (c_X0_refresh h6) ?_
  refine hs_iload_n dX8_objectInfo_24 2 rfl ?_
  by_cases hc7 : x2 = (6 : Int32)
  · rw [if_pos hc7] at h
    refine hs_lkpC (tgt := 52) (off := 27) (6 : Int32) dX8_objectInfo_25 (by decide) hc7 (by decide) (by decide) ?_
    refine hs_aload_n dX8_objectInfo_52 0 rfl ?_
    obtain ⟨r8, h8, h⟩ := hb_bind h
    refine hs_getR dX8_objectInfo_53 lkX8_21 rfl h8 ?_
    obtain ⟨r9, h9, h⟩ := hb_bind h
    refine hs_getR dX8_objectInfo_56 lkX8_174 rfl h9 ?_
    refine hs_iload_n dX8_objectInfo_59 1 rfl ?_
    obtain ⟨r10, h10, h⟩ := hb_bind h
    refine hs_iald dX8_objectInfo_60 h10 ?_
    obtain rfl := Option.some.inj h
    exact hs_ireturn dX8_objectInfo_61 rfl (by rfl) (fun _ => rfl)
  rw [if_neg hc7] at h
  by_cases hc11 : x2 = (7 : Int32)
  · rw [if_pos hc11] at h
    refine hs_lkpC (tgt := 62) (off := 37) (7 : Int32) dX8_objectInfo_25 (by decide) hc11 (by decide) (by decide) ?_
    refine hs_aload_n dX8_objectInfo_62 0 rfl ?_
    obtain ⟨r12, h12, h⟩ := hb_bind h
    refine hs_getR dX8_objectInfo_63 lkX8_21 rfl h12 ?_
    obtain ⟨r13, h13, h⟩ := hb_bind h
    refine hs_getR dX8_objectInfo_66 lkX8_177 rfl h13 ?_
    refine hs_iload_n dX8_objectInfo_69 1 rfl ?_
    obtain ⟨r14, h14, h⟩ := hb_bind h
    refine hs_iald dX8_objectInfo_70 h14 ?_
    obtain rfl := Option.some.inj h
    exact hs_ireturn dX8_objectInfo_71 rfl (by rfl) (fun _ => rfl)
  rw [if_neg hc11] at h
  refine hs_lkpD (tgt := 72) [(6 : Int32), (7 : Int32)] dX8_objectInfo_25 (by decide) (by simp only [List.mem_cons, List.not_mem_nil, or_false, forall_eq_or_imp, forall_eq]; exact ⟨hc7, hc11⟩) (by decide) (by decide) ?_
  refine hs_aload_n dX8_objectInfo_72 0 rfl ?_
  obtain ⟨r15, h15, h⟩ := hb_bind h
  refine hs_getR dX8_objectInfo_73 lkX8_10 rfl h15 ?_
  refine hs_iload_n dX8_objectInfo_76 1 rfl ?_
  refine hs_iload_n dX8_objectInfo_77 2 rfl ?_
  obtain ⟨r16, h16, h⟩ := hb_bind h
  obtain ⟨h16, nf16, hb16⟩ := hb_on_at h16
  refine hs_callVi (μ' := mX4_objectFact) (mc := 0) (ms := 0) (rc := 0) (rs := 0) (As := [.int x1, .int x2]) (rest := []) (ci := 4) dX8_objectInfo_78 lmX8_180 okX4_objectFact rfl (by decide) rfl (Nat.le_of_ble_eq_true rfl) rfl hb16 (c_X4_objectFact h16) ?_
  obtain rfl := Option.some.inj h
  exact hs_ireturn dX8_objectInfo_81 rfl (by rfl) (fun _ => rfl)
def mX8_populate : hb_Y := (yX8_populate, cX8_populate, 4, (some .int), [], false)
set_option maxHeartbeats 4000000 in
set_option maxRecDepth 20000 in
theorem c_X8_populate_b66 {G : hb_G} {l : Launch} (hl : l.stackTraces = false) : ∀ (n : Nat) (x0 : Nat) (x2 : Int32) (x3 : Int32) (σ : hb_M) (r : ((String ⊕ Int32) × hb_M)), f_X8_populate_b66 n x0 x2 x3 σ = some r → hb_T G l true mX8_populate 5 0 0 66 [(0, .ref x0), (2, .int x2), (3, .int x3)] [] σ (hb_xi r) := by
  intro n
  induction n with
  | zero =>
    intro x0 x2 x3 σ r h
    cases h
  | succ n ih =>
    intro x0 x2 x3 σ r h
    rw [f_X8_populate_b66] at h
    refine hs_iload_n dX8_populate_66 2 rfl ?_
    refine hs_iload_n dX8_populate_67 1 rfl ?_
    refine hs_icmp_ge (tgt := 88) dX8_populate_68 (by decide) (fun hc1 => ?_) (fun hc1 => ?_)
    · rw [if_pos hc1] at h
      refine hs_aload_n dX8_populate_88 0 rfl ?_
      obtain ⟨r2, h2, h⟩ := hb_bind h
      refine hs_getR dX8_populate_89 lkX8_10 rfl h2 ?_
      obtain ⟨r3, h3, h⟩ := hb_bind h
      obtain ⟨h3, nf3, hb3⟩ := hb_on_at h3
      refine hs_callVi (μ' := mX4_objectCount) (mc := 0) (ms := 0) (rc := 0) (rs := 0) (As := []) (rest := []) (ci := 4) dX8_populate_92 lmX8_168 okX4_objectCount rfl (by decide) rfl (Nat.le_of_ble_eq_true rfl) rfl hb3 (c_X4_objectCount h3) ?_
      obtain rfl := Option.some.inj h
      exact hs_ireturn dX8_populate_95 rfl (by rfl) (fun _ => rfl)
    · rw [if_neg hc1] at h
      refine hs_aload_n dX8_populate_71 0 rfl ?_
      obtain ⟨r4, h4, h⟩ := hb_bind h
      refine hs_getR dX8_populate_72 lkX8_58 rfl h4 ?_
      refine hs_aload_n dX8_populate_75 0 rfl ?_
      obtain ⟨r5, h5, h⟩ := hb_bind h
      refine hs_getR dX8_populate_76 lkX8_10 rfl h5 ?_
      obtain ⟨r6, h6, h⟩ := hb_bind h
      obtain ⟨h6, nf6, hb6⟩ := hb_on_at h6
      refine hs_callVv (μ' := mX2_addTo) (mc := 0) (ms := 0) (rc := 0) (rs := 0) (As := [.ref r5]) (rest := []) (ci := 2) dX8_populate_79 lmX8_186 okX2_addTo rfl (by decide) rfl (Nat.le_of_ble_eq_true rfl) rfl hb6 (c_X2_addTo h6) ?_
      refine hs_iinc2 (k := (1 : Int32)) (lv' := [(3, .int (x3 + (1 : Int32))), (0, .ref x0), (2, .int x2)]) dX8_populate_82 (by decide) 2 rfl (by decide) rfl ?_
      refine hs_goto (tgt := 66) dX8_populate_85 (by decide) ?_
      refine hs_sub (lv' := [(0, .ref x0), (2, .int x2), (3, .int (x3 + (1 : Int32)))]) [1, 2, 0] rfl ?_
      exact ih _ _ _ _ _ h
set_option maxHeartbeats 4000000 in
set_option maxRecDepth 20000 in
theorem c_X8_populate_b42 {G : hb_G} {l : Launch} (hl : l.stackTraces = false)  {x0 : Nat} {x1 : Int32} {x2 : Int32} {s0 : Int32} {σ : hb_M} {r : ((String ⊕ Int32) × hb_M)} (h : f_X8_populate_b42 x0 x1 x2 s0 σ = some r) : hb_T G l true mX8_populate 5 1 6 42 [(0, .ref x0), (1, .int x1), (2, .int x2)] [.int s0] σ (hb_xi r) := by
  unfold f_X8_populate_b42 at h
  rcases hb_xb_at h with ⟨E1, r1, h1, hr1⟩ | ⟨v1, r1, h1, h⟩
  · subst hr1
    exact hs_callSx (μ' := mX8_refuse) (mc := 1) (ms := 6) (rc := 0) (rs := 0) (As := [.int s0]) (rest := []) dX8_populate_42 lmX8_74 okX8_refuse rfl (by decide) rfl (Nat.le_of_ble_eq_true rfl) (c_X8_refuse hl h1) rfl
  refine hs_callSv (μ' := mX8_refuse) (mc := 1) (ms := 6) (rc := 0) (rs := 0) (As := [.int s0]) (rest := []) dX8_populate_42 lmX8_74 okX8_refuse rfl (by decide) rfl (Nat.le_of_ble_eq_true rfl) (c_X8_refuse hl h1) ?_
  refine hs_aload_n dX8_populate_45 0 rfl ?_
  obtain ⟨r2, h2, h⟩ := hb_bind h
  refine hs_getR dX8_populate_46 lkX8_28 rfl h2 ?_
  refine hs_aload_n dX8_populate_49 0 rfl ?_
  obtain ⟨r3, h3, h⟩ := hb_bind h
  refine hs_getR dX8_populate_50 lkX8_10 rfl h3 ?_
  obtain ⟨r4, h4, h⟩ := hb_bind h
  obtain ⟨h4, nf4, hb4⟩ := hb_on_at h4
  refine hs_callVv (μ' := mX5_save) (mc := 0) (ms := 0) (rc := 0) (rs := 0) (As := [.ref r3]) (rest := []) (ci := 5) dX8_populate_53 lmX8_78 okX5_save rfl (by decide) rfl (Nat.le_of_ble_eq_true rfl) rfl hb4 (c_X5_save h4) ?_
  refine hs_aload_n dX8_populate_56 0 rfl ?_
  obtain ⟨r5, h5, h⟩ := hb_bind h
  refine hs_getR dX8_populate_57 lkX8_58 rfl h5 ?_
  refine hs_iload_n dX8_populate_60 1 rfl ?_
  obtain ⟨r6, h6, h⟩ := hb_bind h
  obtain ⟨h6, nf6, hb6⟩ := hb_on_at h6
  refine hs_callVv (μ' := mX2_begin) (mc := 0) (ms := 0) (rc := 0) (rs := 0) (As := [.int x1]) (rest := []) (ci := 2) dX8_populate_61 lmX8_183 okX2_begin rfl (by decide) rfl (Nat.le_of_ble_eq_true rfl) rfl hb6 (c_X2_begin h6) ?_
  refine hs_iconst (v := (0 : Int32)) dX8_populate_64 (by decide) ?_
  refine hs_istore_n (lv' := [(3, .int (0 : Int32)), (0, .ref x0), (1, .int x1), (2, .int x2)]) dX8_populate_65 (by decide) rfl ?_
  refine hs_sub (lv' := [(0, .ref x0), (2, .int x2), (3, .int (0 : Int32))]) [1, 3, 0] rfl ?_
  exact c_X8_populate_b66 hl hb_FU _ _ _ _ _ h
set_option maxHeartbeats 4000000 in
set_option maxRecDepth 20000 in
theorem c_X8_populate_b20 {G : hb_G} {l : Launch} (hl : l.stackTraces = false)  {x0 : Nat} {x1 : Int32} {x2 : Int32} {s0 : Int32} {σ : hb_M} {r : ((String ⊕ Int32) × hb_M)} (h : f_X8_populate_b20 x0 x1 x2 s0 σ = some r) : hb_T G l true mX8_populate 5 2 12 20 [(0, .ref x0), (1, .int x1), (2, .int x2)] [.int s0] σ (hb_xi r) := by
  unfold f_X8_populate_b20 at h
  rcases hb_xb_at h with ⟨E1, r1, h1, hr1⟩ | ⟨v1, r1, h1, h⟩
  · subst hr1
    exact hs_callSx (μ' := mX8_refuse) (mc := 1) (ms := 6) (rc := 1) (rs := 6) (As := [.int s0]) (rest := []) dX8_populate_20 lmX8_74 okX8_refuse rfl (by decide) rfl (Nat.le_of_ble_eq_true rfl) (c_X8_refuse hl h1) rfl
  refine hs_callSv (μ' := mX8_refuse) (mc := 1) (ms := 6) (rc := 1) (rs := 6) (As := [.int s0]) (rest := []) dX8_populate_20 lmX8_74 okX8_refuse rfl (by decide) rfl (Nat.le_of_ble_eq_true rfl) (c_X8_refuse hl h1) ?_
  refine hs_aload_n dX8_populate_23 0 rfl ?_
  obtain ⟨r2, h2, h⟩ := hb_bind h
  refine hs_getR dX8_populate_24 lkX8_10 rfl h2 ?_
  obtain ⟨r3, h3, h⟩ := hb_bind h
  obtain ⟨h3, nf3, hb3⟩ := hb_on_at h3
  refine hs_callVi (μ' := mX4_objectCount) (mc := 0) (ms := 0) (rc := 1) (rs := 6) (As := []) (rest := []) (ci := 4) dX8_populate_27 lmX8_168 okX4_objectCount rfl (by decide) rfl (Nat.le_of_ble_eq_true rfl) rfl hb3 (c_X4_objectCount h3) ?_
  refine hs_iload_n dX8_populate_30 2 rfl ?_
  refine hs_iadd dX8_populate_31 ?_
  refine hs_bipush (v := (40 : Int32)) dX8_populate_32 (by decide) ?_
  refine hs_icmp_gt (tgt := 41) dX8_populate_34 (by decide) (fun hc4 => ?_) (fun hc4 => ?_)
  · rw [if_pos hc4] at h
    refine hs_iconst (v := (3 : Int32)) dX8_populate_41 (by decide) ?_
    refine hs_sub (lv' := [(0, .ref x0), (1, .int x1), (2, .int x2)]) [0, 1, 2] rfl ?_
    exact c_X8_populate_b42 hl h
  · rw [if_neg hc4] at h
    refine hs_iconst (v := (0 : Int32)) dX8_populate_37 (by decide) ?_
    refine hs_goto (tgt := 42) dX8_populate_38 (by decide) ?_
    refine hs_sub (lv' := [(0, .ref x0), (1, .int x1), (2, .int x2)]) [0, 1, 2] rfl ?_
    exact c_X8_populate_b42 hl h
set_option maxHeartbeats 4000000 in
set_option maxRecDepth 20000 in
theorem c_X8_populate_b19 {G : hb_G} {l : Launch} (hl : l.stackTraces = false)  {x0 : Nat} {x1 : Int32} {x2 : Int32} {σ : hb_M} {r : ((String ⊕ Int32) × hb_M)} (h : f_X8_populate_b19 x0 x1 x2 σ = some r) : hb_T G l true mX8_populate 5 2 12 19 [(0, .ref x0), (1, .int x1), (2, .int x2)] [] σ (hb_xi r) := by
  unfold f_X8_populate_b19 at h
  refine hs_iconst (v := (2 : Int32)) dX8_populate_19 (by decide) ?_
  refine hs_sub (lv' := [(0, .ref x0), (1, .int x1), (2, .int x2)]) [0, 1, 2] rfl ?_
  exact c_X8_populate_b20 hl h
set_option maxHeartbeats 4000000 in
set_option maxRecDepth 20000 in
theorem c_X8_populate {G : hb_G} {l : Launch} (hl : l.stackTraces = false) {x0 : Nat} {x1 : Int32} {x2 : Int32} {σ : hb_M} {r : ((String ⊕ Int32) × hb_M)} (h : f_X8_populate x0 x1 x2 σ = some r) : hb_Call G l true 5 2 12 mX8_populate [.ref x0, .int x1, .int x2] σ (hb_xi r) := by
  refine hb_met (by decide) (Nat.le_of_ble_eq_true rfl) ?_
  unfold f_X8_populate at h
  refine hs_iload_n dX8_populate_0 1 rfl ?_
  refine hs_if_lt (tgt := 19) dX8_populate_1 (by decide) (fun hc1 => ?_) (fun hc1 => ?_)
  · rw [if_pos hc1] at h
    refine hs_sub (lv' := [(0, .ref x0), (1, .int x1), (2, .int x2)]) [0, 1, 2] rfl ?_
    exact c_X8_populate_b19 hl h
  · rw [if_neg hc1] at h
    refine hs_iload_n dX8_populate_4 2 rfl ?_
    refine hs_iconst (v := (1 : Int32)) dX8_populate_5 (by decide) ?_
    refine hs_icmp_lt (tgt := 19) dX8_populate_6 (by decide) (fun hc2 => ?_) (fun hc2 => ?_)
    · rw [if_pos hc2] at h
      refine hs_sub (lv' := [(0, .ref x0), (1, .int x1), (2, .int x2)]) [0, 1, 2] rfl ?_
      exact c_X8_populate_b19 hl h
    · rw [if_neg hc2] at h
      refine hs_iload_n dX8_populate_9 2 rfl ?_
      refine hs_bipush (v := (40 : Int32)) dX8_populate_10 (by decide) ?_
      refine hs_icmp_gt (tgt := 19) dX8_populate_12 (by decide) (fun hc3 => ?_) (fun hc3 => ?_)
      · rw [if_pos hc3] at h
        refine hs_sub (lv' := [(0, .ref x0), (1, .int x1), (2, .int x2)]) [0, 1, 2] rfl ?_
        exact c_X8_populate_b19 hl h
      · rw [if_neg hc3] at h
        refine hs_iconst (v := (0 : Int32)) dX8_populate_15 (by decide) ?_
        refine hs_goto (tgt := 20) dX8_populate_16 (by decide) ?_
        refine hs_sub (lv' := [(0, .ref x0), (1, .int x1), (2, .int x2)]) [0, 1, 2] rfl ?_
        exact c_X8_populate_b20 hl h
def mX8_distance : hb_Y := (yX8_distance, cX8_distance, 2, (some .int), [], false)
set_option maxHeartbeats 4000000 in
set_option maxRecDepth 20000 in
theorem c_X8_distance {G : hb_G} {l : Launch} (hl : l.stackTraces = false) {x0 : Nat} {x1 : Int32} {σ : hb_M} {r : ((String ⊕ Int32) × hb_M)} (h : f_X8_distance x0 x1 σ = some r) : hb_Call G l true 4 1 6 mX8_distance [.ref x0, .int x1] σ (hb_xi r) := by
  refine hb_met (by decide) (Nat.le_of_ble_eq_true rfl) ?_
  unfold f_X8_distance at h
  refine hs_aload_n dX8_distance_0 0 rfl ?_
  obtain ⟨r1, h1, h⟩ := hb_bind h
  refine hs_getR dX8_distance_1 lkX8_10 rfl h1 ?_
  refine hs_iload_n dX8_distance_4 1 rfl ?_
  obtain ⟨r2, h2, h⟩ := hb_bind h
  obtain ⟨h2, nf2, hb2⟩ := hb_on_at h2
  refine hs_callVi (μ' := mX4_hasObject) (mc := 0) (ms := 0) (rc := 1) (rs := 6) (As := [.int x1]) (rest := []) (ci := 4) dX8_distance_5 lmX8_146 okX4_hasObject rfl (by decide) rfl (Nat.le_of_ble_eq_true rfl) rfl hb2 (c_X4_hasObject h2) ?_
  rcases hb_xb_at h with ⟨E3, r3, h3, hr3⟩ | ⟨v3, r3, h3, h⟩
  · subst hr3
    exact hs_callSx (μ' := mX8_refuseUnless) (mc := 1) (ms := 6) (rc := 0) (rs := 0) (As := [.int r2.1]) (rest := []) dX8_distance_8 lmX8_100 okX8_refuseUnless rfl (by decide) rfl (Nat.le_of_ble_eq_true rfl) (c_X8_refuseUnless hl h3) rfl
  refine hs_callSv (μ' := mX8_refuseUnless) (mc := 1) (ms := 6) (rc := 0) (rs := 0) (As := [.int r2.1]) (rest := []) dX8_distance_8 lmX8_100 okX8_refuseUnless rfl (by decide) rfl (Nat.le_of_ble_eq_true rfl) (c_X8_refuseUnless hl h3) ?_
  refine hs_aload_n dX8_distance_11 0 rfl ?_
  obtain ⟨r4, h4, h⟩ := hb_bind h
  refine hs_getR dX8_distance_12 lkX8_21 rfl h4 ?_
  obtain ⟨r5, h5, h⟩ := hb_bind h
  obtain ⟨h5, nf5, hb5⟩ := hb_on_at h5
  refine hs_callVv (μ' := mX0_refresh) (mc := 0) (ms := 0) (rc := 0) (rs := 0) (As := []) (rest := []) (ci := 0) dX8_distance_15 lmX8_171 okX0_refresh rfl (by decide) rfl (Nat.le_of_ble_eq_true rfl) rfl hb5 (c_X0_refresh h5) ?_
  refine hs_aload_n dX8_distance_18 0 rfl ?_
  obtain ⟨r6, h6, h⟩ := hb_bind h
  refine hs_getR dX8_distance_19 lkX8_21 rfl h6 ?_
  obtain ⟨r7, h7, h⟩ := hb_bind h
  refine hs_getR dX8_distance_22 lkX8_189 rfl h7 ?_
  obtain ⟨r8, h8, h⟩ := hb_bind h
  refine hs_getR dX8_distance_25 lkX8_193 rfl h8 ?_
  refine hs_iload_n dX8_distance_28 1 rfl ?_
  obtain ⟨r9, h9, h⟩ := hb_bind h
  refine hs_iald dX8_distance_29 h9 ?_
  obtain rfl := Option.some.inj h
  exact hs_ireturn dX8_distance_30 rfl (by rfl) (fun _ => rfl)
def mX8_pathAt : hb_Y := (yX8_pathAt, cX8_pathAt, 3, (some .int), [], false)
set_option maxHeartbeats 4000000 in
set_option maxRecDepth 20000 in
theorem c_X8_pathAt {G : hb_G} {l : Launch} (hl : l.stackTraces = false) {x0 : Nat} {x1 : Int32} {x2 : Int32} {σ : hb_M} {r : ((String ⊕ Int32) × hb_M)} (h : f_X8_pathAt x0 x1 x2 σ = some r) : hb_Call G l true 4 1 6 mX8_pathAt [.ref x0, .int x1, .int x2] σ (hb_xi r) := by
  refine hb_met (by decide) (Nat.le_of_ble_eq_true rfl) ?_
  unfold f_X8_pathAt at h
  refine hs_aload_n dX8_pathAt_0 0 rfl ?_
  obtain ⟨r1, h1, h⟩ := hb_bind h
  refine hs_getR dX8_pathAt_1 lkX8_10 rfl h1 ?_
  refine hs_iload_n dX8_pathAt_4 1 rfl ?_
  obtain ⟨r2, h2, h⟩ := hb_bind h
  obtain ⟨h2, nf2, hb2⟩ := hb_on_at h2
  refine hs_callVi (μ' := mX4_hasObject) (mc := 0) (ms := 0) (rc := 1) (rs := 6) (As := [.int x1]) (rest := []) (ci := 4) dX8_pathAt_5 lmX8_146 okX4_hasObject rfl (by decide) rfl (Nat.le_of_ble_eq_true rfl) rfl hb2 (c_X4_hasObject h2) ?_
  rcases hb_xb_at h with ⟨E3, r3, h3, hr3⟩ | ⟨v3, r3, h3, h⟩
  · subst hr3
    exact hs_callSx (μ' := mX8_refuseUnless) (mc := 1) (ms := 6) (rc := 0) (rs := 0) (As := [.int r2.1]) (rest := []) dX8_pathAt_8 lmX8_100 okX8_refuseUnless rfl (by decide) rfl (Nat.le_of_ble_eq_true rfl) (c_X8_refuseUnless hl h3) rfl
  refine hs_callSv (μ' := mX8_refuseUnless) (mc := 1) (ms := 6) (rc := 0) (rs := 0) (As := [.int r2.1]) (rest := []) dX8_pathAt_8 lmX8_100 okX8_refuseUnless rfl (by decide) rfl (Nat.le_of_ble_eq_true rfl) (c_X8_refuseUnless hl h3) ?_
  refine hs_aload_n dX8_pathAt_11 0 rfl ?_
  obtain ⟨r4, h4, h⟩ := hb_bind h
  refine hs_getR dX8_pathAt_12 lkX8_21 rfl h4 ?_
  obtain ⟨r5, h5, h⟩ := hb_bind h
  obtain ⟨h5, nf5, hb5⟩ := hb_on_at h5
  refine hs_callVv (μ' := mX0_refresh) (mc := 0) (ms := 0) (rc := 0) (rs := 0) (As := []) (rest := []) (ci := 0) dX8_pathAt_15 lmX8_171 okX0_refresh rfl (by decide) rfl (Nat.le_of_ble_eq_true rfl) rfl hb5 (c_X0_refresh h5) ?_
  refine hs_aload_n dX8_pathAt_18 0 rfl ?_
  obtain ⟨r6, h6, h⟩ := hb_bind h
  refine hs_getR dX8_pathAt_19 lkX8_21 rfl h6 ?_
  obtain ⟨r7, h7, h⟩ := hb_bind h
  refine hs_getR dX8_pathAt_22 lkX8_189 rfl h7 ?_
  refine hs_iload_n dX8_pathAt_25 1 rfl ?_
  refine hs_iload_n dX8_pathAt_26 2 rfl ?_
  obtain ⟨r8, h8, h⟩ := hb_bind h
  obtain ⟨h8, nf8, hb8⟩ := hb_on_at h8
  refine hs_callVi (μ' := mX6_pathObject) (mc := 0) (ms := 0) (rc := 0) (rs := 0) (As := [.int x1, .int x2]) (rest := []) (ci := 6) dX8_pathAt_27 lmX8_198 okX6_pathObject rfl (by decide) rfl (Nat.le_of_ble_eq_true rfl) rfl hb8 (c_X6_pathObject h8) ?_
  obtain rfl := Option.some.inj h
  exact hs_ireturn dX8_pathAt_30 rfl (by rfl) (fun _ => rfl)
def mX8_dominates : hb_Y := (yX8_dominates, cX8_dominates, 3, (some .boolean), [], false)
set_option maxHeartbeats 4000000 in
set_option maxRecDepth 20000 in
theorem c_X8_dominates_b27 {G : hb_G} {l : Launch} (hl : l.stackTraces = false)  {x0 : Nat} {x1 : Int32} {x2 : Int32} {s0 : Int32} {σ : hb_M} {r : ((String ⊕ Int32) × hb_M)} (h : f_X8_dominates_b27 x0 x1 x2 s0 σ = some r) : hb_T G l true mX8_dominates 4 1 6 27 [(0, .ref x0), (1, .int x1), (2, .int x2)] [.int s0] σ (hb_xi r) := by
  unfold f_X8_dominates_b27 at h
  rcases hb_xb_at h with ⟨E1, r1, h1, hr1⟩ | ⟨v1, r1, h1, h⟩
  · subst hr1
    exact hs_callSx (μ' := mX8_refuseUnless) (mc := 1) (ms := 6) (rc := 0) (rs := 0) (As := [.int s0]) (rest := []) dX8_dominates_27 lmX8_100 okX8_refuseUnless rfl (by decide) rfl (Nat.le_of_ble_eq_true rfl) (c_X8_refuseUnless hl h1) rfl
  refine hs_callSv (μ' := mX8_refuseUnless) (mc := 1) (ms := 6) (rc := 0) (rs := 0) (As := [.int s0]) (rest := []) dX8_dominates_27 lmX8_100 okX8_refuseUnless rfl (by decide) rfl (Nat.le_of_ble_eq_true rfl) (c_X8_refuseUnless hl h1) ?_
  refine hs_aload_n dX8_dominates_30 0 rfl ?_
  obtain ⟨r2, h2, h⟩ := hb_bind h
  refine hs_getR dX8_dominates_31 lkX8_21 rfl h2 ?_
  obtain ⟨r3, h3, h⟩ := hb_bind h
  obtain ⟨h3, nf3, hb3⟩ := hb_on_at h3
  refine hs_callVv (μ' := mX0_refresh) (mc := 0) (ms := 0) (rc := 0) (rs := 0) (As := []) (rest := []) (ci := 0) dX8_dominates_34 lmX8_171 okX0_refresh rfl (by decide) rfl (Nat.le_of_ble_eq_true rfl) rfl hb3 (c_X0_refresh h3) ?_
  refine hs_aload_n dX8_dominates_37 0 rfl ?_
  obtain ⟨r4, h4, h⟩ := hb_bind h
  refine hs_getR dX8_dominates_38 lkX8_21 rfl h4 ?_
  obtain ⟨r5, h5, h⟩ := hb_bind h
  refine hs_getR dX8_dominates_41 lkX8_201 rfl h5 ?_
  refine hs_iload_n dX8_dominates_44 2 rfl ?_
  obtain ⟨r6, h6, h⟩ := hb_bind h
  refine hs_lald dX8_dominates_45 h6 ?_
  refine hs_iload_n dX8_dominates_46 1 rfl ?_
  obtain ⟨r7, h7, h⟩ := hb_bind h
  refine hs_callSi (μ' := mX8_contains) (mc := 0) (ms := 0) (rc := 0) (rs := 0) (As := [.long r6, .int x1]) (rest := []) dX8_dominates_47 lmX8_205 okX8_contains rfl (by decide) rfl (Nat.le_of_ble_eq_true rfl) (c_X8_contains h7) ?_
  by_cases hc8 : r7.1 = 0 ∨ r7.1 = 1
  · rw [if_pos hc8] at h
    obtain rfl := Option.some.inj h
    exact hs_ireturn dX8_dominates_50 rfl (hb_zn hc8) (fun _ => rfl)
  · rw [if_neg hc8] at h
    cases h
set_option maxHeartbeats 4000000 in
set_option maxRecDepth 20000 in
theorem c_X8_dominates_b26 {G : hb_G} {l : Launch} (hl : l.stackTraces = false)  {x0 : Nat} {x1 : Int32} {x2 : Int32} {σ : hb_M} {r : ((String ⊕ Int32) × hb_M)} (h : f_X8_dominates_b26 x0 x1 x2 σ = some r) : hb_T G l true mX8_dominates 4 1 6 26 [(0, .ref x0), (1, .int x1), (2, .int x2)] [] σ (hb_xi r) := by
  unfold f_X8_dominates_b26 at h
  refine hs_iconst (v := (0 : Int32)) dX8_dominates_26 (by decide) ?_
  refine hs_sub (lv' := [(0, .ref x0), (1, .int x1), (2, .int x2)]) [0, 1, 2] rfl ?_
  exact c_X8_dominates_b27 hl h
set_option maxHeartbeats 4000000 in
set_option maxRecDepth 20000 in
theorem c_X8_dominates {G : hb_G} {l : Launch} (hl : l.stackTraces = false) {x0 : Nat} {x1 : Int32} {x2 : Int32} {σ : hb_M} {r : ((String ⊕ Int32) × hb_M)} (h : f_X8_dominates x0 x1 x2 σ = some r) : hb_Call G l true 4 1 6 mX8_dominates [.ref x0, .int x1, .int x2] σ (hb_xi r) := by
  refine hb_met (by decide) (Nat.le_of_ble_eq_true rfl) ?_
  unfold f_X8_dominates at h
  refine hs_aload_n dX8_dominates_0 0 rfl ?_
  obtain ⟨r1, h1, h⟩ := hb_bind h
  refine hs_getR dX8_dominates_1 lkX8_10 rfl h1 ?_
  refine hs_iload_n dX8_dominates_4 1 rfl ?_
  obtain ⟨r2, h2, h⟩ := hb_bind h
  obtain ⟨h2, nf2, hb2⟩ := hb_on_at h2
  refine hs_callVi (μ' := mX4_hasObject) (mc := 0) (ms := 0) (rc := 1) (rs := 6) (As := [.int x1]) (rest := []) (ci := 4) dX8_dominates_5 lmX8_146 okX4_hasObject rfl (by decide) rfl (Nat.le_of_ble_eq_true rfl) rfl hb2 (c_X4_hasObject h2) ?_
  refine hs_if_eq (tgt := 26) dX8_dominates_8 (by decide) (fun hc3 => ?_) (fun hc3 => ?_)
  · rw [if_pos hc3] at h
    refine hs_sub (lv' := [(0, .ref x0), (1, .int x1), (2, .int x2)]) [0, 1, 2] rfl ?_
    exact c_X8_dominates_b26 hl h
  · rw [if_neg hc3] at h
    refine hs_aload_n dX8_dominates_11 0 rfl ?_
    obtain ⟨r4, h4, h⟩ := hb_bind h
    refine hs_getR dX8_dominates_12 lkX8_10 rfl h4 ?_
    refine hs_iload_n dX8_dominates_15 2 rfl ?_
    obtain ⟨r5, h5, h⟩ := hb_bind h
    obtain ⟨h5, nf5, hb5⟩ := hb_on_at h5
    refine hs_callVi (μ' := mX4_hasObject) (mc := 0) (ms := 0) (rc := 1) (rs := 6) (As := [.int x2]) (rest := []) (ci := 4) dX8_dominates_16 lmX8_146 okX4_hasObject rfl (by decide) rfl (Nat.le_of_ble_eq_true rfl) rfl hb5 (c_X4_hasObject h5) ?_
    refine hs_if_eq (tgt := 26) dX8_dominates_19 (by decide) (fun hc6 => ?_) (fun hc6 => ?_)
    · rw [if_pos hc6] at h
      refine hs_sub (lv' := [(0, .ref x0), (1, .int x1), (2, .int x2)]) [0, 1, 2] rfl ?_
      exact c_X8_dominates_b26 hl h
    · rw [if_neg hc6] at h
      refine hs_iconst (v := (1 : Int32)) dX8_dominates_22 (by decide) ?_
      refine hs_goto (tgt := 27) dX8_dominates_23 (by decide) ?_
      refine hs_sub (lv' := [(0, .ref x0), (1, .int x1), (2, .int x2)]) [0, 1, 2] rfl ?_
      exact c_X8_dominates_b27 hl h
def mX8_dominator : hb_Y := (yX8_dominator, cX8_dominator, 2, (some .int), [], false)
set_option maxHeartbeats 4000000 in
set_option maxRecDepth 20000 in
theorem c_X8_dominator {G : hb_G} {l : Launch} (hl : l.stackTraces = false) {x0 : Nat} {x1 : Int32} {σ : hb_M} {r : ((String ⊕ Int32) × hb_M)} (h : f_X8_dominator x0 x1 σ = some r) : hb_Call G l true 4 1 6 mX8_dominator [.ref x0, .int x1] σ (hb_xi r) := by
  refine hb_met (by decide) (Nat.le_of_ble_eq_true rfl) ?_
  unfold f_X8_dominator at h
  refine hs_aload_n dX8_dominator_0 0 rfl ?_
  obtain ⟨r1, h1, h⟩ := hb_bind h
  refine hs_getR dX8_dominator_1 lkX8_10 rfl h1 ?_
  refine hs_iload_n dX8_dominator_4 1 rfl ?_
  obtain ⟨r2, h2, h⟩ := hb_bind h
  obtain ⟨h2, nf2, hb2⟩ := hb_on_at h2
  refine hs_callVi (μ' := mX4_hasObject) (mc := 0) (ms := 0) (rc := 1) (rs := 6) (As := [.int x1]) (rest := []) (ci := 4) dX8_dominator_5 lmX8_146 okX4_hasObject rfl (by decide) rfl (Nat.le_of_ble_eq_true rfl) rfl hb2 (c_X4_hasObject h2) ?_
  rcases hb_xb_at h with ⟨E3, r3, h3, hr3⟩ | ⟨v3, r3, h3, h⟩
  · subst hr3
    exact hs_callSx (μ' := mX8_refuseUnless) (mc := 1) (ms := 6) (rc := 0) (rs := 0) (As := [.int r2.1]) (rest := []) dX8_dominator_8 lmX8_100 okX8_refuseUnless rfl (by decide) rfl (Nat.le_of_ble_eq_true rfl) (c_X8_refuseUnless hl h3) rfl
  refine hs_callSv (μ' := mX8_refuseUnless) (mc := 1) (ms := 6) (rc := 0) (rs := 0) (As := [.int r2.1]) (rest := []) dX8_dominator_8 lmX8_100 okX8_refuseUnless rfl (by decide) rfl (Nat.le_of_ble_eq_true rfl) (c_X8_refuseUnless hl h3) ?_
  refine hs_aload_n dX8_dominator_11 0 rfl ?_
  obtain ⟨r4, h4, h⟩ := hb_bind h
  refine hs_getR dX8_dominator_12 lkX8_21 rfl h4 ?_
  obtain ⟨r5, h5, h⟩ := hb_bind h
  obtain ⟨h5, nf5, hb5⟩ := hb_on_at h5
  refine hs_callVv (μ' := mX0_refresh) (mc := 0) (ms := 0) (rc := 0) (rs := 0) (As := []) (rest := []) (ci := 0) dX8_dominator_15 lmX8_171 okX0_refresh rfl (by decide) rfl (Nat.le_of_ble_eq_true rfl) rfl hb5 (c_X0_refresh h5) ?_
  refine hs_aload_n dX8_dominator_18 0 rfl ?_
  obtain ⟨r6, h6, h⟩ := hb_bind h
  refine hs_getR dX8_dominator_19 lkX8_21 rfl h6 ?_
  obtain ⟨r7, h7, h⟩ := hb_bind h
  refine hs_getR dX8_dominator_22 lkX8_209 rfl h7 ?_
  refine hs_iload_n dX8_dominator_25 1 rfl ?_
  obtain ⟨r8, h8, h⟩ := hb_bind h
  refine hs_iald dX8_dominator_26 h8 ?_
  obtain rfl := Option.some.inj h
  exact hs_ireturn dX8_dominator_27 rfl (by rfl) (fun _ => rfl)
def mX8_depth : hb_Y := (yX8_depth, cX8_depth, 2, (some .int), [], false)
set_option maxHeartbeats 4000000 in
set_option maxRecDepth 20000 in
theorem c_X8_depth {G : hb_G} {l : Launch} (hl : l.stackTraces = false) {x0 : Nat} {x1 : Int32} {σ : hb_M} {r : ((String ⊕ Int32) × hb_M)} (h : f_X8_depth x0 x1 σ = some r) : hb_Call G l true 4 1 6 mX8_depth [.ref x0, .int x1] σ (hb_xi r) := by
  refine hb_met (by decide) (Nat.le_of_ble_eq_true rfl) ?_
  unfold f_X8_depth at h
  refine hs_aload_n dX8_depth_0 0 rfl ?_
  obtain ⟨r1, h1, h⟩ := hb_bind h
  refine hs_getR dX8_depth_1 lkX8_10 rfl h1 ?_
  refine hs_iload_n dX8_depth_4 1 rfl ?_
  obtain ⟨r2, h2, h⟩ := hb_bind h
  obtain ⟨h2, nf2, hb2⟩ := hb_on_at h2
  refine hs_callVi (μ' := mX4_hasObject) (mc := 0) (ms := 0) (rc := 1) (rs := 6) (As := [.int x1]) (rest := []) (ci := 4) dX8_depth_5 lmX8_146 okX4_hasObject rfl (by decide) rfl (Nat.le_of_ble_eq_true rfl) rfl hb2 (c_X4_hasObject h2) ?_
  rcases hb_xb_at h with ⟨E3, r3, h3, hr3⟩ | ⟨v3, r3, h3, h⟩
  · subst hr3
    exact hs_callSx (μ' := mX8_refuseUnless) (mc := 1) (ms := 6) (rc := 0) (rs := 0) (As := [.int r2.1]) (rest := []) dX8_depth_8 lmX8_100 okX8_refuseUnless rfl (by decide) rfl (Nat.le_of_ble_eq_true rfl) (c_X8_refuseUnless hl h3) rfl
  refine hs_callSv (μ' := mX8_refuseUnless) (mc := 1) (ms := 6) (rc := 0) (rs := 0) (As := [.int r2.1]) (rest := []) dX8_depth_8 lmX8_100 okX8_refuseUnless rfl (by decide) rfl (Nat.le_of_ble_eq_true rfl) (c_X8_refuseUnless hl h3) ?_
  refine hs_aload_n dX8_depth_11 0 rfl ?_
  obtain ⟨r4, h4, h⟩ := hb_bind h
  refine hs_getR dX8_depth_12 lkX8_21 rfl h4 ?_
  obtain ⟨r5, h5, h⟩ := hb_bind h
  obtain ⟨h5, nf5, hb5⟩ := hb_on_at h5
  refine hs_callVv (μ' := mX0_refresh) (mc := 0) (ms := 0) (rc := 0) (rs := 0) (As := []) (rest := []) (ci := 0) dX8_depth_15 lmX8_171 okX0_refresh rfl (by decide) rfl (Nat.le_of_ble_eq_true rfl) rfl hb5 (c_X0_refresh h5) ?_
  refine hs_aload_n dX8_depth_18 0 rfl ?_
  obtain ⟨r6, h6, h⟩ := hb_bind h
  refine hs_getR dX8_depth_19 lkX8_21 rfl h6 ?_
  obtain ⟨r7, h7, h⟩ := hb_bind h
  refine hs_getR dX8_depth_22 lkX8_201 rfl h7 ?_
  refine hs_iload_n dX8_depth_25 1 rfl ?_
  obtain ⟨r8, h8, h⟩ := hb_bind h
  refine hs_lald dX8_depth_26 h8 ?_
  obtain ⟨r9, h9, h⟩ := hb_bind h
  refine hs_callSi (μ' := mJ13_bitCount_95d88) (mc := 0) (ms := 0) (rc := 0) (rs := 0) (As := [.long r8]) (rest := []) dX8_depth_27 lmX8_212 okJ13_bitCount_95d88 rfl (by decide) rfl (Nat.le_of_ble_eq_true rfl) (c_J13_bitCount_95d88 h9) ?_
  refine hs_iconst (v := (1 : Int32)) dX8_depth_30 (by decide) ?_
  refine hs_isub dX8_depth_31 ?_
  obtain rfl := Option.some.inj h
  exact hs_ireturn dX8_depth_32 rfl (by rfl) (fun _ => rfl)
def mX8_dominatedAt : hb_Y := (yX8_dominatedAt, cX8_dominatedAt, 3, (some .int), [], false)
set_option maxHeartbeats 4000000 in
set_option maxRecDepth 20000 in
theorem c_X8_dominatedAt_b21 {G : hb_G} {l : Launch} (hl : l.stackTraces = false)  {x0 : Nat} {x1 : Int32} {x2 : Int32} {s0 : Int32} {σ : hb_M} {r : ((String ⊕ Int32) × hb_M)} (h : f_X8_dominatedAt_b21 x0 x1 x2 s0 σ = some r) : hb_T G l true mX8_dominatedAt 4 1 6 21 [(0, .ref x0), (1, .int x1), (2, .int x2)] [.int s0] σ (hb_xi r) := by
  unfold f_X8_dominatedAt_b21 at h
  rcases hb_xb_at h with ⟨E1, r1, h1, hr1⟩ | ⟨v1, r1, h1, h⟩
  · subst hr1
    exact hs_callSx (μ' := mX8_refuseUnless) (mc := 1) (ms := 6) (rc := 0) (rs := 0) (As := [.int s0]) (rest := []) dX8_dominatedAt_21 lmX8_100 okX8_refuseUnless rfl (by decide) rfl (Nat.le_of_ble_eq_true rfl) (c_X8_refuseUnless hl h1) rfl
  refine hs_callSv (μ' := mX8_refuseUnless) (mc := 1) (ms := 6) (rc := 0) (rs := 0) (As := [.int s0]) (rest := []) dX8_dominatedAt_21 lmX8_100 okX8_refuseUnless rfl (by decide) rfl (Nat.le_of_ble_eq_true rfl) (c_X8_refuseUnless hl h1) ?_
  refine hs_aload_n dX8_dominatedAt_24 0 rfl ?_
  obtain ⟨r2, h2, h⟩ := hb_bind h
  refine hs_getR dX8_dominatedAt_25 lkX8_21 rfl h2 ?_
  obtain ⟨r3, h3, h⟩ := hb_bind h
  obtain ⟨h3, nf3, hb3⟩ := hb_on_at h3
  refine hs_callVv (μ' := mX0_refresh) (mc := 0) (ms := 0) (rc := 0) (rs := 0) (As := []) (rest := []) (ci := 0) dX8_dominatedAt_28 lmX8_171 okX0_refresh rfl (by decide) rfl (Nat.le_of_ble_eq_true rfl) rfl hb3 (c_X0_refresh h3) ?_
  refine hs_aload_n dX8_dominatedAt_31 0 rfl ?_
  obtain ⟨r4, h4, h⟩ := hb_bind h
  refine hs_getR dX8_dominatedAt_32 lkX8_21 rfl h4 ?_
  refine hs_iload_n dX8_dominatedAt_35 1 rfl ?_
  obtain ⟨r5, h5, h⟩ := hb_bind h
  obtain ⟨h5, nf5, hb5⟩ := hb_on_at h5
  refine hs_callVl (μ' := mX0_children) (mc := 0) (ms := 0) (rc := 0) (rs := 0) (As := [.int x1]) (rest := []) (ci := 0) dX8_dominatedAt_36 lmX8_218 okX0_children rfl (by decide) rfl (Nat.le_of_ble_eq_true rfl) rfl hb5 (c_X0_children h5) ?_
  refine hs_iload_n dX8_dominatedAt_39 2 rfl ?_
  obtain ⟨r6, h6, h⟩ := hb_bind h
  refine hs_callSi (μ' := mX8_memberAt) (mc := 0) (ms := 0) (rc := 0) (rs := 0) (As := [.long r5.1, .int x2]) (rest := []) dX8_dominatedAt_40 lmX8_222 okX8_memberAt rfl (by decide) rfl (Nat.le_of_ble_eq_true rfl) (c_X8_memberAt h6) ?_
  obtain rfl := Option.some.inj h
  exact hs_ireturn dX8_dominatedAt_43 rfl (by rfl) (fun _ => rfl)
set_option maxHeartbeats 4000000 in
set_option maxRecDepth 20000 in
theorem c_X8_dominatedAt_b16 {G : hb_G} {l : Launch} (hl : l.stackTraces = false)  {x0 : Nat} {x1 : Int32} {x2 : Int32} {σ : hb_M} {r : ((String ⊕ Int32) × hb_M)} (h : f_X8_dominatedAt_b16 x0 x1 x2 σ = some r) : hb_T G l true mX8_dominatedAt 4 1 6 16 [(0, .ref x0), (1, .int x1), (2, .int x2)] [] σ (hb_xi r) := by
  unfold f_X8_dominatedAt_b16 at h
  refine hs_iconst (v := (1 : Int32)) dX8_dominatedAt_16 (by decide) ?_
  refine hs_goto (tgt := 21) dX8_dominatedAt_17 (by decide) ?_
  refine hs_sub (lv' := [(0, .ref x0), (1, .int x1), (2, .int x2)]) [0, 1, 2] rfl ?_
  exact c_X8_dominatedAt_b21 hl h
set_option maxHeartbeats 4000000 in
set_option maxRecDepth 20000 in
theorem c_X8_dominatedAt {G : hb_G} {l : Launch} (hl : l.stackTraces = false) {x0 : Nat} {x1 : Int32} {x2 : Int32} {σ : hb_M} {r : ((String ⊕ Int32) × hb_M)} (h : f_X8_dominatedAt x0 x1 x2 σ = some r) : hb_Call G l true 4 1 6 mX8_dominatedAt [.ref x0, .int x1, .int x2] σ (hb_xi r) := by
  refine hb_met (by decide) (Nat.le_of_ble_eq_true rfl) ?_
  unfold f_X8_dominatedAt at h
  refine hs_iload_n dX8_dominatedAt_0 1 rfl ?_
  refine hs_iconst (v := (-1 : Int32)) dX8_dominatedAt_1 (by decide) ?_
  refine hs_icmp_eq (tgt := 16) dX8_dominatedAt_2 (by decide) (fun hc1 => ?_) (fun hc1 => ?_)
  · rw [if_pos hc1] at h
    refine hs_sub (lv' := [(0, .ref x0), (1, .int x1), (2, .int x2)]) [0, 1, 2] rfl ?_
    exact c_X8_dominatedAt_b16 hl h
  · rw [if_neg hc1] at h
    refine hs_aload_n dX8_dominatedAt_5 0 rfl ?_
    obtain ⟨r2, h2, h⟩ := hb_bind h
    refine hs_getR dX8_dominatedAt_6 lkX8_10 rfl h2 ?_
    refine hs_iload_n dX8_dominatedAt_9 1 rfl ?_
    obtain ⟨r3, h3, h⟩ := hb_bind h
    obtain ⟨h3, nf3, hb3⟩ := hb_on_at h3
    refine hs_callVi (μ' := mX4_hasObject) (mc := 0) (ms := 0) (rc := 1) (rs := 6) (As := [.int x1]) (rest := []) (ci := 4) dX8_dominatedAt_10 lmX8_146 okX4_hasObject rfl (by decide) rfl (Nat.le_of_ble_eq_true rfl) rfl hb3 (c_X4_hasObject h3) ?_
    refine hs_if_eq (tgt := 20) dX8_dominatedAt_13 (by decide) (fun hc4 => ?_) (fun hc4 => ?_)
    · rw [if_pos hc4] at h
      refine hs_iconst (v := (0 : Int32)) dX8_dominatedAt_20 (by decide) ?_
      refine hs_sub (lv' := [(0, .ref x0), (1, .int x1), (2, .int x2)]) [0, 1, 2] rfl ?_
      exact c_X8_dominatedAt_b21 hl h
    · rw [if_neg hc4] at h
      refine hs_sub (lv' := [(0, .ref x0), (1, .int x1), (2, .int x2)]) [0, 1, 2] rfl ?_
      exact c_X8_dominatedAt_b16 hl h
def mX8_retainedSize : hb_Y := (yX8_retainedSize, cX8_retainedSize, 2, (some .int), [], false)
set_option maxHeartbeats 4000000 in
set_option maxRecDepth 20000 in
theorem c_X8_retainedSize {G : hb_G} {l : Launch} (hl : l.stackTraces = false) {x0 : Nat} {x1 : Int32} {σ : hb_M} {r : ((String ⊕ Int32) × hb_M)} (h : f_X8_retainedSize x0 x1 σ = some r) : hb_Call G l true 4 1 6 mX8_retainedSize [.ref x0, .int x1] σ (hb_xi r) := by
  refine hb_met (by decide) (Nat.le_of_ble_eq_true rfl) ?_
  unfold f_X8_retainedSize at h
  refine hs_aload_n dX8_retainedSize_0 0 rfl ?_
  obtain ⟨r1, h1, h⟩ := hb_bind h
  refine hs_getR dX8_retainedSize_1 lkX8_10 rfl h1 ?_
  refine hs_iload_n dX8_retainedSize_4 1 rfl ?_
  obtain ⟨r2, h2, h⟩ := hb_bind h
  obtain ⟨h2, nf2, hb2⟩ := hb_on_at h2
  refine hs_callVi (μ' := mX4_hasObject) (mc := 0) (ms := 0) (rc := 1) (rs := 6) (As := [.int x1]) (rest := []) (ci := 4) dX8_retainedSize_5 lmX8_146 okX4_hasObject rfl (by decide) rfl (Nat.le_of_ble_eq_true rfl) rfl hb2 (c_X4_hasObject h2) ?_
  rcases hb_xb_at h with ⟨E3, r3, h3, hr3⟩ | ⟨v3, r3, h3, h⟩
  · subst hr3
    exact hs_callSx (μ' := mX8_refuseUnless) (mc := 1) (ms := 6) (rc := 0) (rs := 0) (As := [.int r2.1]) (rest := []) dX8_retainedSize_8 lmX8_100 okX8_refuseUnless rfl (by decide) rfl (Nat.le_of_ble_eq_true rfl) (c_X8_refuseUnless hl h3) rfl
  refine hs_callSv (μ' := mX8_refuseUnless) (mc := 1) (ms := 6) (rc := 0) (rs := 0) (As := [.int r2.1]) (rest := []) dX8_retainedSize_8 lmX8_100 okX8_refuseUnless rfl (by decide) rfl (Nat.le_of_ble_eq_true rfl) (c_X8_refuseUnless hl h3) ?_
  refine hs_aload_n dX8_retainedSize_11 0 rfl ?_
  obtain ⟨r4, h4, h⟩ := hb_bind h
  refine hs_getR dX8_retainedSize_12 lkX8_21 rfl h4 ?_
  obtain ⟨r5, h5, h⟩ := hb_bind h
  obtain ⟨h5, nf5, hb5⟩ := hb_on_at h5
  refine hs_callVv (μ' := mX0_refresh) (mc := 0) (ms := 0) (rc := 0) (rs := 0) (As := []) (rest := []) (ci := 0) dX8_retainedSize_15 lmX8_171 okX0_refresh rfl (by decide) rfl (Nat.le_of_ble_eq_true rfl) rfl hb5 (c_X0_refresh h5) ?_
  refine hs_aload_n dX8_retainedSize_18 0 rfl ?_
  obtain ⟨r6, h6, h⟩ := hb_bind h
  refine hs_getR dX8_retainedSize_19 lkX8_21 rfl h6 ?_
  obtain ⟨r7, h7, h⟩ := hb_bind h
  refine hs_getR dX8_retainedSize_22 lkX8_226 rfl h7 ?_
  refine hs_iload_n dX8_retainedSize_25 1 rfl ?_
  obtain ⟨r8, h8, h⟩ := hb_bind h
  refine hs_iald dX8_retainedSize_26 h8 ?_
  obtain rfl := Option.some.inj h
  exact hs_ireturn dX8_retainedSize_27 rfl (by rfl) (fun _ => rfl)
def mX8_retainedObjects : hb_Y := (yX8_retainedObjects, cX8_retainedObjects, 2, (some .int), [], false)
set_option maxHeartbeats 4000000 in
set_option maxRecDepth 20000 in
theorem c_X8_retainedObjects {G : hb_G} {l : Launch} (hl : l.stackTraces = false) {x0 : Nat} {x1 : Int32} {σ : hb_M} {r : ((String ⊕ Int32) × hb_M)} (h : f_X8_retainedObjects x0 x1 σ = some r) : hb_Call G l true 4 1 6 mX8_retainedObjects [.ref x0, .int x1] σ (hb_xi r) := by
  refine hb_met (by decide) (Nat.le_of_ble_eq_true rfl) ?_
  unfold f_X8_retainedObjects at h
  refine hs_aload_n dX8_retainedObjects_0 0 rfl ?_
  obtain ⟨r1, h1, h⟩ := hb_bind h
  refine hs_getR dX8_retainedObjects_1 lkX8_10 rfl h1 ?_
  refine hs_iload_n dX8_retainedObjects_4 1 rfl ?_
  obtain ⟨r2, h2, h⟩ := hb_bind h
  obtain ⟨h2, nf2, hb2⟩ := hb_on_at h2
  refine hs_callVi (μ' := mX4_hasObject) (mc := 0) (ms := 0) (rc := 1) (rs := 6) (As := [.int x1]) (rest := []) (ci := 4) dX8_retainedObjects_5 lmX8_146 okX4_hasObject rfl (by decide) rfl (Nat.le_of_ble_eq_true rfl) rfl hb2 (c_X4_hasObject h2) ?_
  rcases hb_xb_at h with ⟨E3, r3, h3, hr3⟩ | ⟨v3, r3, h3, h⟩
  · subst hr3
    exact hs_callSx (μ' := mX8_refuseUnless) (mc := 1) (ms := 6) (rc := 0) (rs := 0) (As := [.int r2.1]) (rest := []) dX8_retainedObjects_8 lmX8_100 okX8_refuseUnless rfl (by decide) rfl (Nat.le_of_ble_eq_true rfl) (c_X8_refuseUnless hl h3) rfl
  refine hs_callSv (μ' := mX8_refuseUnless) (mc := 1) (ms := 6) (rc := 0) (rs := 0) (As := [.int r2.1]) (rest := []) dX8_retainedObjects_8 lmX8_100 okX8_refuseUnless rfl (by decide) rfl (Nat.le_of_ble_eq_true rfl) (c_X8_refuseUnless hl h3) ?_
  refine hs_aload_n dX8_retainedObjects_11 0 rfl ?_
  obtain ⟨r4, h4, h⟩ := hb_bind h
  refine hs_getR dX8_retainedObjects_12 lkX8_21 rfl h4 ?_
  obtain ⟨r5, h5, h⟩ := hb_bind h
  obtain ⟨h5, nf5, hb5⟩ := hb_on_at h5
  refine hs_callVv (μ' := mX0_refresh) (mc := 0) (ms := 0) (rc := 0) (rs := 0) (As := []) (rest := []) (ci := 0) dX8_retainedObjects_15 lmX8_171 okX0_refresh rfl (by decide) rfl (Nat.le_of_ble_eq_true rfl) rfl hb5 (c_X0_refresh h5) ?_
  refine hs_aload_n dX8_retainedObjects_18 0 rfl ?_
  obtain ⟨r6, h6, h⟩ := hb_bind h
  refine hs_getR dX8_retainedObjects_19 lkX8_21 rfl h6 ?_
  refine hs_iload_n dX8_retainedObjects_22 1 rfl ?_
  obtain ⟨r7, h7, h⟩ := hb_bind h
  obtain ⟨h7, nf7, hb7⟩ := hb_on_at h7
  refine hs_callVl (μ' := mX0_dominatedBy) (mc := 0) (ms := 0) (rc := 0) (rs := 0) (As := [.int x1]) (rest := []) (ci := 0) dX8_retainedObjects_23 lmX8_229 okX0_dominatedBy rfl (by decide) rfl (Nat.le_of_ble_eq_true rfl) rfl hb7 (c_X0_dominatedBy h7) ?_
  obtain ⟨r8, h8, h⟩ := hb_bind h
  refine hs_callSi (μ' := mJ13_bitCount_95d88) (mc := 0) (ms := 0) (rc := 0) (rs := 0) (As := [.long r7.1]) (rest := []) dX8_retainedObjects_26 lmX8_212 okJ13_bitCount_95d88 rfl (by decide) rfl (Nat.le_of_ble_eq_true rfl) (c_J13_bitCount_95d88 h8) ?_
  obtain rfl := Option.some.inj h
  exact hs_ireturn dX8_retainedObjects_29 rfl (by rfl) (fun _ => rfl)
def mX8_component : hb_Y := (yX8_component, cX8_component, 2, (some .int), [], false)
set_option maxHeartbeats 4000000 in
set_option maxRecDepth 20000 in
theorem c_X8_component {G : hb_G} {l : Launch} (hl : l.stackTraces = false) {x0 : Nat} {x1 : Int32} {σ : hb_M} {r : ((String ⊕ Int32) × hb_M)} (h : f_X8_component x0 x1 σ = some r) : hb_Call G l true 4 1 6 mX8_component [.ref x0, .int x1] σ (hb_xi r) := by
  refine hb_met (by decide) (Nat.le_of_ble_eq_true rfl) ?_
  unfold f_X8_component at h
  refine hs_aload_n dX8_component_0 0 rfl ?_
  obtain ⟨r1, h1, h⟩ := hb_bind h
  refine hs_getR dX8_component_1 lkX8_10 rfl h1 ?_
  refine hs_iload_n dX8_component_4 1 rfl ?_
  obtain ⟨r2, h2, h⟩ := hb_bind h
  obtain ⟨h2, nf2, hb2⟩ := hb_on_at h2
  refine hs_callVi (μ' := mX4_hasObject) (mc := 0) (ms := 0) (rc := 1) (rs := 6) (As := [.int x1]) (rest := []) (ci := 4) dX8_component_5 lmX8_146 okX4_hasObject rfl (by decide) rfl (Nat.le_of_ble_eq_true rfl) rfl hb2 (c_X4_hasObject h2) ?_
  rcases hb_xb_at h with ⟨E3, r3, h3, hr3⟩ | ⟨v3, r3, h3, h⟩
  · subst hr3
    exact hs_callSx (μ' := mX8_refuseUnless) (mc := 1) (ms := 6) (rc := 0) (rs := 0) (As := [.int r2.1]) (rest := []) dX8_component_8 lmX8_100 okX8_refuseUnless rfl (by decide) rfl (Nat.le_of_ble_eq_true rfl) (c_X8_refuseUnless hl h3) rfl
  refine hs_callSv (μ' := mX8_refuseUnless) (mc := 1) (ms := 6) (rc := 0) (rs := 0) (As := [.int r2.1]) (rest := []) dX8_component_8 lmX8_100 okX8_refuseUnless rfl (by decide) rfl (Nat.le_of_ble_eq_true rfl) (c_X8_refuseUnless hl h3) ?_
  refine hs_aload_n dX8_component_11 0 rfl ?_
  obtain ⟨r4, h4, h⟩ := hb_bind h
  refine hs_getR dX8_component_12 lkX8_21 rfl h4 ?_
  obtain ⟨r5, h5, h⟩ := hb_bind h
  obtain ⟨h5, nf5, hb5⟩ := hb_on_at h5
  refine hs_callVv (μ' := mX0_refresh) (mc := 0) (ms := 0) (rc := 0) (rs := 0) (As := []) (rest := []) (ci := 0) dX8_component_15 lmX8_171 okX0_refresh rfl (by decide) rfl (Nat.le_of_ble_eq_true rfl) rfl hb5 (c_X0_refresh h5) ?_
  refine hs_aload_n dX8_component_18 0 rfl ?_
  obtain ⟨r6, h6, h⟩ := hb_bind h
  refine hs_getR dX8_component_19 lkX8_21 rfl h6 ?_
  obtain ⟨r7, h7, h⟩ := hb_bind h
  refine hs_getR dX8_component_22 lkX8_232 rfl h7 ?_
  refine hs_iload_n dX8_component_25 1 rfl ?_
  obtain ⟨r8, h8, h⟩ := hb_bind h
  refine hs_iald dX8_component_26 h8 ?_
  obtain rfl := Option.some.inj h
  exact hs_ireturn dX8_component_27 rfl (by rfl) (fun _ => rfl)
def mX8_componentSize : hb_Y := (yX8_componentSize, cX8_componentSize, 2, (some .int), [], false)
set_option maxHeartbeats 4000000 in
set_option maxRecDepth 20000 in
theorem c_X8_componentSize {G : hb_G} {l : Launch} (hl : l.stackTraces = false) {x0 : Nat} {x1 : Int32} {σ : hb_M} {r : ((String ⊕ Int32) × hb_M)} (h : f_X8_componentSize x0 x1 σ = some r) : hb_Call G l true 4 1 6 mX8_componentSize [.ref x0, .int x1] σ (hb_xi r) := by
  refine hb_met (by decide) (Nat.le_of_ble_eq_true rfl) ?_
  unfold f_X8_componentSize at h
  refine hs_aload_n dX8_componentSize_0 0 rfl ?_
  obtain ⟨r1, h1, h⟩ := hb_bind h
  refine hs_getR dX8_componentSize_1 lkX8_10 rfl h1 ?_
  refine hs_iload_n dX8_componentSize_4 1 rfl ?_
  obtain ⟨r2, h2, h⟩ := hb_bind h
  obtain ⟨h2, nf2, hb2⟩ := hb_on_at h2
  refine hs_callVi (μ' := mX4_hasObject) (mc := 0) (ms := 0) (rc := 1) (rs := 6) (As := [.int x1]) (rest := []) (ci := 4) dX8_componentSize_5 lmX8_146 okX4_hasObject rfl (by decide) rfl (Nat.le_of_ble_eq_true rfl) rfl hb2 (c_X4_hasObject h2) ?_
  rcases hb_xb_at h with ⟨E3, r3, h3, hr3⟩ | ⟨v3, r3, h3, h⟩
  · subst hr3
    exact hs_callSx (μ' := mX8_refuseUnless) (mc := 1) (ms := 6) (rc := 0) (rs := 0) (As := [.int r2.1]) (rest := []) dX8_componentSize_8 lmX8_100 okX8_refuseUnless rfl (by decide) rfl (Nat.le_of_ble_eq_true rfl) (c_X8_refuseUnless hl h3) rfl
  refine hs_callSv (μ' := mX8_refuseUnless) (mc := 1) (ms := 6) (rc := 0) (rs := 0) (As := [.int r2.1]) (rest := []) dX8_componentSize_8 lmX8_100 okX8_refuseUnless rfl (by decide) rfl (Nat.le_of_ble_eq_true rfl) (c_X8_refuseUnless hl h3) ?_
  refine hs_aload_n dX8_componentSize_11 0 rfl ?_
  obtain ⟨r4, h4, h⟩ := hb_bind h
  refine hs_getR dX8_componentSize_12 lkX8_21 rfl h4 ?_
  obtain ⟨r5, h5, h⟩ := hb_bind h
  obtain ⟨h5, nf5, hb5⟩ := hb_on_at h5
  refine hs_callVv (μ' := mX0_refresh) (mc := 0) (ms := 0) (rc := 0) (rs := 0) (As := []) (rest := []) (ci := 0) dX8_componentSize_15 lmX8_171 okX0_refresh rfl (by decide) rfl (Nat.le_of_ble_eq_true rfl) rfl hb5 (c_X0_refresh h5) ?_
  refine hs_aload_n dX8_componentSize_18 0 rfl ?_
  obtain ⟨r6, h6, h⟩ := hb_bind h
  refine hs_getR dX8_componentSize_19 lkX8_21 rfl h6 ?_
  refine hs_iload_n dX8_componentSize_22 1 rfl ?_
  obtain ⟨r7, h7, h⟩ := hb_bind h
  obtain ⟨h7, nf7, hb7⟩ := hb_on_at h7
  refine hs_callVi (μ' := mX0_sizeOfComponent) (mc := 0) (ms := 0) (rc := 0) (rs := 0) (As := [.int x1]) (rest := []) (ci := 0) dX8_componentSize_23 lmX8_235 okX0_sizeOfComponent rfl (by decide) rfl (Nat.le_of_ble_eq_true rfl) rfl hb7 (c_X0_sizeOfComponent h7) ?_
  obtain rfl := Option.some.inj h
  exact hs_ireturn dX8_componentSize_26 rfl (by rfl) (fun _ => rfl)
def mX8_freedByClearing : hb_Y := (yX8_freedByClearing, cX8_freedByClearing, 3, (some .int), [], false)
set_option maxHeartbeats 4000000 in
set_option maxRecDepth 20000 in
theorem c_X8_freedByClearing {G : hb_G} {l : Launch} (hl : l.stackTraces = false) {x0 : Nat} {x1 : Int32} {x2 : Int32} {σ : hb_M} {r : ((String ⊕ Int32) × hb_M)} (h : f_X8_freedByClearing x0 x1 x2 σ = some r) : hb_Call G l true 4 1 6 mX8_freedByClearing [.ref x0, .int x1, .int x2] σ (hb_xi r) := by
  refine hb_met (by decide) (Nat.le_of_ble_eq_true rfl) ?_
  unfold f_X8_freedByClearing at h
  refine hs_aload_n dX8_freedByClearing_0 0 rfl ?_
  obtain ⟨r1, h1, h⟩ := hb_bind h
  refine hs_getR dX8_freedByClearing_1 lkX8_10 rfl h1 ?_
  refine hs_iload_n dX8_freedByClearing_4 1 rfl ?_
  refine hs_iload_n dX8_freedByClearing_5 2 rfl ?_
  obtain ⟨r2, h2, h⟩ := hb_bind h
  obtain ⟨h2, nf2, hb2⟩ := hb_on_at h2
  refine hs_callVi (μ' := mX4_hasSlot) (mc := 0) (ms := 0) (rc := 1) (rs := 6) (As := [.int x1, .int x2]) (rest := []) (ci := 4) dX8_freedByClearing_6 lmX8_134 okX4_hasSlot rfl (by decide) rfl (Nat.le_of_ble_eq_true rfl) rfl hb2 (c_X4_hasSlot h2) ?_
  rcases hb_xb_at h with ⟨E3, r3, h3, hr3⟩ | ⟨v3, r3, h3, h⟩
  · subst hr3
    exact hs_callSx (μ' := mX8_refuseUnless) (mc := 1) (ms := 6) (rc := 0) (rs := 0) (As := [.int r2.1]) (rest := []) dX8_freedByClearing_9 lmX8_100 okX8_refuseUnless rfl (by decide) rfl (Nat.le_of_ble_eq_true rfl) (c_X8_refuseUnless hl h3) rfl
  refine hs_callSv (μ' := mX8_refuseUnless) (mc := 1) (ms := 6) (rc := 0) (rs := 0) (As := [.int r2.1]) (rest := []) dX8_freedByClearing_9 lmX8_100 okX8_refuseUnless rfl (by decide) rfl (Nat.le_of_ble_eq_true rfl) (c_X8_refuseUnless hl h3) ?_
  refine hs_aload_n dX8_freedByClearing_12 0 rfl ?_
  obtain ⟨r4, h4, h⟩ := hb_bind h
  refine hs_getR dX8_freedByClearing_13 lkX8_21 rfl h4 ?_
  obtain ⟨r5, h5, h⟩ := hb_bind h
  obtain ⟨h5, nf5, hb5⟩ := hb_on_at h5
  refine hs_callVv (μ' := mX0_refresh) (mc := 0) (ms := 0) (rc := 0) (rs := 0) (As := []) (rest := []) (ci := 0) dX8_freedByClearing_16 lmX8_171 okX0_refresh rfl (by decide) rfl (Nat.le_of_ble_eq_true rfl) rfl hb5 (c_X0_refresh h5) ?_
  refine hs_aload_n dX8_freedByClearing_19 0 rfl ?_
  obtain ⟨r6, h6, h⟩ := hb_bind h
  refine hs_getR dX8_freedByClearing_20 lkX8_21 rfl h6 ?_
  refine hs_iload_n dX8_freedByClearing_23 1 rfl ?_
  refine hs_iload_n dX8_freedByClearing_24 2 rfl ?_
  obtain ⟨r7, h7, h⟩ := hb_bind h
  obtain ⟨h7, nf7, hb7⟩ := hb_on_at h7
  refine hs_callVi (μ' := mX0_lostWithoutSlot) (mc := 0) (ms := 0) (rc := 0) (rs := 0) (As := [.int x1, .int x2]) (rest := []) (ci := 0) dX8_freedByClearing_25 lmX8_238 okX0_lostWithoutSlot rfl (by decide) rfl (Nat.le_of_ble_eq_true rfl) rfl hb7 (c_X0_lostWithoutSlot h7) ?_
  obtain rfl := Option.some.inj h
  exact hs_ireturn dX8_freedByClearing_28 rfl (by rfl) (fun _ => rfl)
def mX8_freedByUnrooting : hb_Y := (yX8_freedByUnrooting, cX8_freedByUnrooting, 2, (some .int), [], false)
set_option maxHeartbeats 4000000 in
set_option maxRecDepth 20000 in
theorem c_X8_freedByUnrooting {G : hb_G} {l : Launch} (hl : l.stackTraces = false) {x0 : Nat} {x1 : Int32} {σ : hb_M} {r : ((String ⊕ Int32) × hb_M)} (h : f_X8_freedByUnrooting x0 x1 σ = some r) : hb_Call G l true 4 1 6 mX8_freedByUnrooting [.ref x0, .int x1] σ (hb_xi r) := by
  refine hb_met (by decide) (Nat.le_of_ble_eq_true rfl) ?_
  unfold f_X8_freedByUnrooting at h
  refine hs_aload_n dX8_freedByUnrooting_0 0 rfl ?_
  obtain ⟨r1, h1, h⟩ := hb_bind h
  refine hs_getR dX8_freedByUnrooting_1 lkX8_10 rfl h1 ?_
  refine hs_iload_n dX8_freedByUnrooting_4 1 rfl ?_
  obtain ⟨r2, h2, h⟩ := hb_bind h
  obtain ⟨h2, nf2, hb2⟩ := hb_on_at h2
  refine hs_callVi (μ' := mX4_hasObject) (mc := 0) (ms := 0) (rc := 1) (rs := 6) (As := [.int x1]) (rest := []) (ci := 4) dX8_freedByUnrooting_5 lmX8_146 okX4_hasObject rfl (by decide) rfl (Nat.le_of_ble_eq_true rfl) rfl hb2 (c_X4_hasObject h2) ?_
  rcases hb_xb_at h with ⟨E3, r3, h3, hr3⟩ | ⟨v3, r3, h3, h⟩
  · subst hr3
    exact hs_callSx (μ' := mX8_refuseUnless) (mc := 1) (ms := 6) (rc := 0) (rs := 0) (As := [.int r2.1]) (rest := []) dX8_freedByUnrooting_8 lmX8_100 okX8_refuseUnless rfl (by decide) rfl (Nat.le_of_ble_eq_true rfl) (c_X8_refuseUnless hl h3) rfl
  refine hs_callSv (μ' := mX8_refuseUnless) (mc := 1) (ms := 6) (rc := 0) (rs := 0) (As := [.int r2.1]) (rest := []) dX8_freedByUnrooting_8 lmX8_100 okX8_refuseUnless rfl (by decide) rfl (Nat.le_of_ble_eq_true rfl) (c_X8_refuseUnless hl h3) ?_
  refine hs_aload_n dX8_freedByUnrooting_11 0 rfl ?_
  obtain ⟨r4, h4, h⟩ := hb_bind h
  refine hs_getR dX8_freedByUnrooting_12 lkX8_21 rfl h4 ?_
  obtain ⟨r5, h5, h⟩ := hb_bind h
  obtain ⟨h5, nf5, hb5⟩ := hb_on_at h5
  refine hs_callVv (μ' := mX0_refresh) (mc := 0) (ms := 0) (rc := 0) (rs := 0) (As := []) (rest := []) (ci := 0) dX8_freedByUnrooting_15 lmX8_171 okX0_refresh rfl (by decide) rfl (Nat.le_of_ble_eq_true rfl) rfl hb5 (c_X0_refresh h5) ?_
  refine hs_aload_n dX8_freedByUnrooting_18 0 rfl ?_
  obtain ⟨r6, h6, h⟩ := hb_bind h
  refine hs_getR dX8_freedByUnrooting_19 lkX8_21 rfl h6 ?_
  refine hs_iload_n dX8_freedByUnrooting_22 1 rfl ?_
  obtain ⟨r7, h7, h⟩ := hb_bind h
  obtain ⟨h7, nf7, hb7⟩ := hb_on_at h7
  refine hs_callVi (μ' := mX0_lostWithoutRoot) (mc := 0) (ms := 0) (rc := 0) (rs := 0) (As := [.int x1]) (rest := []) (ci := 0) dX8_freedByUnrooting_23 lmX8_241 okX0_lostWithoutRoot rfl (by decide) rfl (Nat.le_of_ble_eq_true rfl) rfl hb7 (c_X0_lostWithoutRoot h7) ?_
  obtain rfl := Option.some.inj h
  exact hs_ireturn dX8_freedByUnrooting_26 rfl (by rfl) (fun _ => rfl)
def mX8_group : hb_Y := (yX8_group, cX8_group, 6, (some .int), [], false)
set_option maxHeartbeats 4000000 in
set_option maxRecDepth 20000 in
theorem c_X8_group {G : hb_G} {l : Launch} (hl : l.stackTraces = false) {x0 : Nat} {x1 : Int32} {x2 : Int32} {x3 : Int32} {σ : hb_M} {r : ((String ⊕ Int32) × hb_M)} (h : f_X8_group x0 x1 x2 x3 σ = some r) : hb_Call G l true 4 1 6 mX8_group [.ref x0, .int x1, .int x2, .int x3] σ (hb_xi r) := by
  refine hb_met (by decide) (Nat.le_of_ble_eq_true rfl) ?_
  unfold f_X8_group at h
  refine hs_aload_n dX8_group_0 0 rfl ?_
  obtain ⟨r1, h1, h⟩ := hb_bind h
  refine hs_getR dX8_group_1 lkX8_10 rfl h1 ?_
  refine hs_iload_n dX8_group_4 1 rfl ?_
  obtain ⟨r2, h2, h⟩ := hb_bind h
  obtain ⟨h2, nf2, hb2⟩ := hb_on_at h2
  refine hs_callVi (μ' := mX4_hasGroup) (mc := 0) (ms := 0) (rc := 1) (rs := 6) (As := [.int x1]) (rest := []) (ci := 4) dX8_group_5 lmX8_244 okX4_hasGroup rfl (by decide) rfl (Nat.le_of_ble_eq_true rfl) rfl hb2 (c_X4_hasGroup h2) ?_
  refine hs_iload_n dX8_group_8 2 rfl ?_
  refine hs_iconst (v := (3 : Int32)) dX8_group_9 (by decide) ?_
  obtain ⟨r3, h3, h⟩ := hb_bind h
  refine hs_callSi (μ' := mX8_problemOf) (mc := 0) (ms := 0) (rc := 1) (rs := 6) (As := [.int r2.1, .int x2, .int (3 : Int32)]) (rest := []) dX8_group_10 lmX8_92 okX8_problemOf rfl (by decide) rfl (Nat.le_of_ble_eq_true rfl) (c_X8_problemOf h3) ?_
  rcases hb_xb_at h with ⟨E4, r4, h4, hr4⟩ | ⟨v4, r4, h4, h⟩
  · subst hr4
    exact hs_callSx (μ' := mX8_refuse) (mc := 1) (ms := 6) (rc := 0) (rs := 0) (As := [.int r3.1]) (rest := []) dX8_group_13 lmX8_74 okX8_refuse rfl (by decide) rfl (Nat.le_of_ble_eq_true rfl) (c_X8_refuse hl h4) rfl
  refine hs_callSv (μ' := mX8_refuse) (mc := 1) (ms := 6) (rc := 0) (rs := 0) (As := [.int r3.1]) (rest := []) dX8_group_13 lmX8_74 okX8_refuse rfl (by decide) rfl (Nat.le_of_ble_eq_true rfl) (c_X8_refuse hl h4) ?_
  refine hs_aload_n dX8_group_16 0 rfl ?_
  obtain ⟨r5, h5, h⟩ := hb_bind h
  refine hs_getR dX8_group_17 lkX8_21 rfl h5 ?_
  obtain ⟨r6, h6, h⟩ := hb_bind h
  obtain ⟨h6, nf6, hb6⟩ := hb_on_at h6
  refine hs_callVv (μ' := mX0_refresh) (mc := 0) (ms := 0) (rc := 0) (rs := 0) (As := []) (rest := []) (ci := 0) dX8_group_20 lmX8_171 okX0_refresh rfl (by decide) rfl (Nat.le_of_ble_eq_true rfl) rfl hb6 (c_X0_refresh h6) ?_
  refine hs_aload_n dX8_group_23 0 rfl ?_
  obtain ⟨r7, h7, h⟩ := hb_bind h
  refine hs_getR dX8_group_24 lkX8_10 rfl h7 ?_
  refine hs_iload_n dX8_group_27 1 rfl ?_
  refine hs_iload_n dX8_group_28 3 rfl ?_
  obtain ⟨r8, h8, h⟩ := hb_bind h
  obtain ⟨h8, nf8, hb8⟩ := hb_on_at h8
  refine hs_callVl (μ' := mX4_membersOf) (mc := 0) (ms := 0) (rc := 0) (rs := 0) (As := [.int x1, .int x3]) (rest := []) (ci := 4) dX8_group_29 lmX8_247 okX4_membersOf rfl (by decide) rfl (Nat.le_of_ble_eq_true rfl) rfl hb8 (c_X4_membersOf h8) ?_
  refine hs_lstore (lv' := [(4, .long r8.1), (0, .ref x0), (1, .int x1), (2, .int x2), (3, .int x3)]) dX8_group_32 (by decide) rfl ?_
  refine hs_iload_n dX8_group_34 3 rfl ?_
  by_cases hc9 : x2 = (0 : Int32)
  · rw [if_pos hc9] at h
    refine hs_tblC (tgt := 60) (off := 25) (0 : Int32) dX8_group_35 hc9 (by decide) (by decide) (by decide) (by decide) ?_
    refine hs_lload dX8_group_60 0 rfl ?_
    obtain ⟨r10, h10, h⟩ := hb_bind h
    refine hs_callSi (μ' := mJ13_bitCount_95d88) (mc := 0) (ms := 0) (rc := 0) (rs := 0) (As := [.long r8.1]) (rest := []) dX8_group_62 lmX8_212 okJ13_bitCount_95d88 rfl (by decide) rfl (Nat.le_of_ble_eq_true rfl) (c_J13_bitCount_95d88 h10) ?_
    obtain rfl := Option.some.inj h
    exact hs_ireturn dX8_group_65 rfl (by rfl) (fun _ => rfl)
  rw [if_neg hc9] at h
  by_cases hc11 : x2 = (1 : Int32)
  · rw [if_pos hc11] at h
    refine hs_tblC (tgt := 66) (off := 31) (1 : Int32) dX8_group_35 hc11 (by decide) (by decide) (by decide) (by decide) ?_
    refine hs_lload dX8_group_66 0 rfl ?_
    refine hs_aload_n dX8_group_68 1 rfl ?_
    obtain ⟨r12, h12, h⟩ := hb_bind h
    refine hs_getR dX8_group_69 lkX8_21 rfl h12 ?_
    obtain ⟨r13, h13, h⟩ := hb_bind h
    refine hs_getR dX8_group_72 lkX8_189 rfl h13 ?_
    obtain ⟨r14, h14, h⟩ := hb_bind h
    refine hs_getL dX8_group_75 lkX8_251 rfl h14 ?_
    refine hs_land dX8_group_78 ?_
    obtain ⟨r15, h15, h⟩ := hb_bind h
    refine hs_callSi (μ' := mJ13_bitCount_95d88) (mc := 0) (ms := 0) (rc := 0) (rs := 0) (As := [.long (r8.1 &&& r14)]) (rest := []) dX8_group_79 lmX8_212 okJ13_bitCount_95d88 rfl (by decide) rfl (Nat.le_of_ble_eq_true rfl) (c_J13_bitCount_95d88 h15) ?_
    obtain rfl := Option.some.inj h
    exact hs_ireturn dX8_group_82 rfl (by rfl) (fun _ => rfl)
  rw [if_neg hc11] at h
  by_cases hc16 : x2 = (2 : Int32)
  · rw [if_pos hc16] at h
    refine hs_tblC (tgt := 83) (off := 48) (2 : Int32) dX8_group_35 hc16 (by decide) (by decide) (by decide) (by decide) ?_
    refine hs_aload_n dX8_group_83 1 rfl ?_
    obtain ⟨r17, h17, h⟩ := hb_bind h
    refine hs_getR dX8_group_84 lkX8_10 rfl h17 ?_
    refine hs_lload dX8_group_87 0 rfl ?_
    obtain ⟨r18, h18, h⟩ := hb_bind h
    obtain ⟨h18, nf18, hb18⟩ := hb_on_at h18
    refine hs_callVi (μ' := mX4_sizeOfAll) (mc := 0) (ms := 0) (rc := 0) (rs := 0) (As := [.long r8.1]) (rest := []) (ci := 4) dX8_group_89 lmX8_255 okX4_sizeOfAll rfl (by decide) rfl (Nat.le_of_ble_eq_true rfl) rfl hb18 (c_X4_sizeOfAll h18) ?_
    obtain rfl := Option.some.inj h
    exact hs_ireturn dX8_group_92 rfl (by rfl) (fun _ => rfl)
  rw [if_neg hc16] at h
  refine hs_tblD (tgt := 93) [(0 : Int32), (1 : Int32), (2 : Int32)] dX8_group_35 (by simp only [List.mem_cons, List.not_mem_nil, or_false, forall_eq_or_imp, forall_eq]; exact ⟨hc9, hc11, hc16⟩) (by decide) (by decide) (by decide) ?_
  refine hs_aload_n dX8_group_93 1 rfl ?_
  obtain ⟨r19, h19, h⟩ := hb_bind h
  refine hs_getR dX8_group_94 lkX8_21 rfl h19 ?_
  refine hs_lload dX8_group_97 0 rfl ?_
  obtain ⟨r20, h20, h⟩ := hb_bind h
  obtain ⟨h20, nf20, hb20⟩ := hb_on_at h20
  refine hs_callVi (μ' := mX0_lostWithout) (mc := 0) (ms := 0) (rc := 0) (rs := 0) (As := [.long r8.1]) (rest := []) (ci := 0) dX8_group_99 lmX8_258 okX0_lostWithout rfl (by decide) rfl (Nat.le_of_ble_eq_true rfl) rfl hb20 (c_X0_lostWithout h20) ?_
  obtain rfl := Option.some.inj h
  exact hs_ireturn dX8_group_102 rfl (by rfl) (fun _ => rfl)
def mX8_quotientBits : hb_Y := (yX8_quotientBits, cX8_quotientBits, 14, (some .long), [], false)
theorem okX8_quotientBits : hb_okS mX8_quotientBits 4 := ⟨⟨hb_w 1 (by decide +kernel) (by decide +kernel), hb_w 1199 (by decide +kernel) (by decide +kernel), ⟨by decide +kernel, by decide +kernel, by decide +kernel⟩, by decide⟩, hb_w 1198 (by decide +kernel) (by decide +kernel)⟩
set_option maxHeartbeats 4000000 in
set_option maxRecDepth 20000 in
theorem c_X8_quotientBits_b199 {G : hb_G} {l : Launch} {z : Bool}  {x4 : Int32} {x10 : Int32} {x11 : Int64} {s0 : Int32} {σ : hb_M} {r : (Int64 × hb_M)} (h : f_X8_quotientBits_b199 x4 x10 x11 s0 σ = some r) : hb_T G l z mX8_quotientBits 0 0 0 199 [(4, .int x4), (10, .int x10), (11, .long x11)] [.int s0] σ (.inl (some (.long r.1)), r.2) := by
  unfold f_X8_quotientBits_b199 at h
  refine hs_istore (lv' := [(13, .int s0), (4, .int x4), (10, .int x10), (11, .long x11)]) dX8_quotientBits_199 (by decide) rfl ?_
  refine hs_iload dX8_quotientBits_201 2 rfl ?_
  refine hs_i2l dX8_quotientBits_203 ?_
  refine hs_iload dX8_quotientBits_204 1 rfl ?_
  refine hs_lshl dX8_quotientBits_206 ?_
  refine hs_lload dX8_quotientBits_207 3 rfl ?_
  refine hs_ladd dX8_quotientBits_209 ?_
  refine hs_iload dX8_quotientBits_210 0 rfl ?_
  refine hs_if_eq (tgt := 219) dX8_quotientBits_212 (by decide) (fun hc1 => ?_) (fun hc1 => ?_)
  · rw [if_pos hc1] at h
    refine hs_iconst (v := (0 : Int32)) dX8_quotientBits_219 (by decide) ?_
    refine hs_i2l dX8_quotientBits_220 ?_
    refine hs_ladd dX8_quotientBits_221 ?_
    obtain rfl := Option.some.inj h
    exact hs_lreturn dX8_quotientBits_222 rfl (fun _ => rfl)
  · rw [if_neg hc1] at h
    refine hs_iconst (v := (1 : Int32)) dX8_quotientBits_215 (by decide) ?_
    refine hs_goto (tgt := 220) dX8_quotientBits_216 (by decide) ?_
    refine hs_i2l dX8_quotientBits_220 ?_
    refine hs_ladd dX8_quotientBits_221 ?_
    obtain rfl := Option.some.inj h
    exact hs_lreturn dX8_quotientBits_222 rfl (fun _ => rfl)
set_option maxHeartbeats 4000000 in
set_option maxRecDepth 20000 in
theorem c_X8_quotientBits_b194 {G : hb_G} {l : Launch} {z : Bool}  {x4 : Int32} {x10 : Int32} {x11 : Int64} {σ : hb_M} {r : (Int64 × hb_M)} (h : f_X8_quotientBits_b194 x4 x10 x11 σ = some r) : hb_T G l z mX8_quotientBits 0 0 0 194 [(4, .int x4), (10, .int x10), (11, .long x11)] [] σ (.inl (some (.long r.1)), r.2) := by
  unfold f_X8_quotientBits_b194 at h
  refine hs_iconst (v := (1 : Int32)) dX8_quotientBits_194 (by decide) ?_
  refine hs_goto (tgt := 199) dX8_quotientBits_195 (by decide) ?_
  refine hs_sub (lv' := [(4, .int x4), (10, .int x10), (11, .long x11)]) [0, 1, 2] rfl ?_
  exact c_X8_quotientBits_b199 h
set_option maxHeartbeats 4000000 in
set_option maxRecDepth 20000 in
theorem c_X8_quotientBits_b198 {G : hb_G} {l : Launch} {z : Bool}  {x4 : Int32} {x10 : Int32} {x11 : Int64} {σ : hb_M} {r : (Int64 × hb_M)} (h : f_X8_quotientBits_b198 x4 x10 x11 σ = some r) : hb_T G l z mX8_quotientBits 0 0 0 198 [(4, .int x4), (10, .int x10), (11, .long x11)] [] σ (.inl (some (.long r.1)), r.2) := by
  unfold f_X8_quotientBits_b198 at h
  refine hs_iconst (v := (0 : Int32)) dX8_quotientBits_198 (by decide) ?_
  refine hs_sub (lv' := [(4, .int x4), (10, .int x10), (11, .long x11)]) [0, 1, 2] rfl ?_
  exact c_X8_quotientBits_b199 h
set_option maxHeartbeats 4000000 in
set_option maxRecDepth 20000 in
theorem c_X8_quotientBits_b155 {G : hb_G} {l : Launch} {z : Bool}  (k111 : Int32 → Int64 → Int64 → Int32 → Int64 → Int32 → hb_M → Option (Int64 × hb_M)) (hk111 : ∀ (x4 : Int32) (x6 : Int64) (x8 : Int64) (x10 : Int32) (x11 : Int64) (x13 : Int32) (σ : hb_M) (r : (Int64 × hb_M)), k111 x4 x6 x8 x10 x11 x13 σ = some r → hb_T G l z mX8_quotientBits 0 0 0 111 [(4, .int x4), (6, .long x6), (8, .long x8), (10, .int x10), (11, .long x11), (13, .int x13)] [] σ (.inl (some (.long r.1)), r.2))  {x4 : Int32} {x6 : Int64} {x8 : Int64} {x10 : Int32} {x11 : Int64} {x13 : Int32} {σ : hb_M} {r : (Int64 × hb_M)} (h : f_X8_quotientBits_b155 k111 x4 x6 x8 x10 x11 x13 σ = some r) : hb_T G l z mX8_quotientBits 0 0 0 155 [(4, .int x4), (6, .long x6), (8, .long x8), (10, .int x10), (11, .long x11), (13, .int x13)] [] σ (.inl (some (.long r.1)), r.2) := by
  unfold f_X8_quotientBits_b155 at h
  refine hs_iinc2 (k := (1 : Int32)) (lv' := [(13, .int (x13 + (1 : Int32))), (4, .int x4), (6, .long x6), (8, .long x8), (10, .int x10), (11, .long x11)]) dX8_quotientBits_155 (by decide) 5 rfl (by decide) rfl ?_
  refine hs_goto (tgt := 111) dX8_quotientBits_158 (by decide) ?_
  refine hs_sub (lv' := [(4, .int x4), (6, .long x6), (8, .long x8), (10, .int x10), (11, .long x11), (13, .int (x13 + (1 : Int32)))]) [1, 2, 3, 4, 5, 0] rfl ?_
  exact hk111 _ _ _ _ _ _ _ _ h
set_option maxHeartbeats 4000000 in
set_option maxRecDepth 20000 in
theorem c_X8_quotientBits_b111 {G : hb_G} {l : Launch} {z : Bool} : ∀ (n : Nat) (x4 : Int32) (x6 : Int64) (x8 : Int64) (x10 : Int32) (x11 : Int64) (x13 : Int32) (σ : hb_M) (r : (Int64 × hb_M)), f_X8_quotientBits_b111 n x4 x6 x8 x10 x11 x13 σ = some r → hb_T G l z mX8_quotientBits 0 0 0 111 [(4, .int x4), (6, .long x6), (8, .long x8), (10, .int x10), (11, .long x11), (13, .int x13)] [] σ (.inl (some (.long r.1)), r.2) := by
  intro n
  induction n with
  | zero =>
    intro x4 x6 x8 x10 x11 x13 σ r h
    cases h
  | succ n ih =>
    intro x4 x6 x8 x10 x11 x13 σ r h
    rw [f_X8_quotientBits_b111] at h
    refine hs_iload dX8_quotientBits_111 5 rfl ?_
    refine hs_iload dX8_quotientBits_113 0 rfl ?_
    refine hs_icmp_ge (tgt := 161) dX8_quotientBits_115 (by decide) (fun hc1 => ?_) (fun hc1 => ?_)
    · rw [if_pos hc1] at h
      refine hs_ldc2 (v := (2 : Int64)) dX8_quotientBits_161 wd_1200 ?_
      refine hs_lload dX8_quotientBits_164 1 rfl ?_
      refine hs_lmul dX8_quotientBits_166 ?_
      refine hs_lload dX8_quotientBits_167 2 rfl ?_
      refine hs_lcmp dX8_quotientBits_169 ?_
      refine hs_if_gt (tgt := 194) dX8_quotientBits_170 (by decide) (fun hc2 => ?_) (fun hc2 => ?_)
      · rw [if_pos hc2] at h
        refine hs_sub (lv' := [(4, .int x4), (10, .int x10), (11, .long x11)]) [0, 3, 4] rfl ?_
        exact c_X8_quotientBits_b194 h
      · rw [if_neg hc2] at h
        refine hs_ldc2 (v := (2 : Int64)) dX8_quotientBits_173 wd_1200 ?_
        refine hs_lload dX8_quotientBits_176 1 rfl ?_
        refine hs_lmul dX8_quotientBits_178 ?_
        refine hs_lload dX8_quotientBits_179 2 rfl ?_
        refine hs_lcmp dX8_quotientBits_181 ?_
        refine hs_if_ne (tgt := 198) dX8_quotientBits_182 (by decide) (fun hc3 => ?_) (fun hc3 => ?_)
        · rw [if_neg hc3] at h
          refine hs_sub (lv' := [(4, .int x4), (10, .int x10), (11, .long x11)]) [0, 3, 4] rfl ?_
          exact c_X8_quotientBits_b198 h
        · rw [if_pos hc3] at h
          refine hs_lload dX8_quotientBits_185 4 rfl ?_
          refine hs_lconst (v := (1 : Int64)) dX8_quotientBits_187 (by decide) ?_
          refine hs_land dX8_quotientBits_188 ?_
          refine hs_lconst (v := (1 : Int64)) dX8_quotientBits_189 (by decide) ?_
          refine hs_lcmp dX8_quotientBits_190 ?_
          refine hs_if_ne (tgt := 198) dX8_quotientBits_191 (by decide) (fun hc4 => ?_) (fun hc4 => ?_)
          · rw [if_neg hc4] at h
            refine hs_sub (lv' := [(4, .int x4), (10, .int x10), (11, .long x11)]) [0, 3, 4] rfl ?_
            exact c_X8_quotientBits_b198 h
          · rw [if_pos hc4] at h
            refine hs_sub (lv' := [(4, .int x4), (10, .int x10), (11, .long x11)]) [0, 3, 4] rfl ?_
            exact c_X8_quotientBits_b194 h
    · rw [if_neg hc1] at h
      refine hs_lload dX8_quotientBits_118 1 rfl ?_
      refine hs_ldc2 (v := (2 : Int64)) dX8_quotientBits_120 wd_1200 ?_
      refine hs_lmul dX8_quotientBits_123 ?_
      refine hs_lstore (lv' := [(6, .long (x6 * (2 : Int64))), (4, .int x4), (8, .long x8), (10, .int x10), (11, .long x11), (13, .int x13)]) dX8_quotientBits_124 (by decide) rfl ?_
      refine hs_lload dX8_quotientBits_126 4 rfl ?_
      refine hs_ldc2 (v := (2 : Int64)) dX8_quotientBits_128 wd_1200 ?_
      refine hs_lmul dX8_quotientBits_131 ?_
      refine hs_lstore (lv' := [(11, .long (x11 * (2 : Int64))), (6, .long (x6 * (2 : Int64))), (4, .int x4), (8, .long x8), (10, .int x10), (13, .int x13)]) dX8_quotientBits_132 (by decide) rfl ?_
      refine hs_lload dX8_quotientBits_134 1 rfl ?_
      refine hs_lload dX8_quotientBits_136 3 rfl ?_
      refine hs_lcmp dX8_quotientBits_138 ?_
      refine hs_if_lt (tgt := 155) dX8_quotientBits_139 (by decide) (fun hc5 => ?_) (fun hc5 => ?_)
      · rw [if_pos hc5] at h
        refine hs_sub (lv' := [(4, .int x4), (6, .long (x6 * (2 : Int64))), (8, .long x8), (10, .int x10), (11, .long (x11 * (2 : Int64))), (13, .int x13)]) [2, 1, 3, 4, 0, 5] rfl ?_
        exact c_X8_quotientBits_b155 (f_X8_quotientBits_b111 n) ih h
      · rw [if_neg hc5] at h
        refine hs_lload dX8_quotientBits_142 1 rfl ?_
        refine hs_lload dX8_quotientBits_144 3 rfl ?_
        refine hs_lsub dX8_quotientBits_146 ?_
        refine hs_lstore (lv' := [(6, .long ((x6 * (2 : Int64)) - x8)), (11, .long (x11 * (2 : Int64))), (4, .int x4), (8, .long x8), (10, .int x10), (13, .int x13)]) dX8_quotientBits_147 (by decide) rfl ?_
        refine hs_lload dX8_quotientBits_149 1 rfl ?_
        refine hs_lconst (v := (1 : Int64)) dX8_quotientBits_151 (by decide) ?_
        refine hs_ladd dX8_quotientBits_152 ?_
        refine hs_lstore (lv' := [(11, .long ((x11 * (2 : Int64)) + (1 : Int64))), (6, .long ((x6 * (2 : Int64)) - x8)), (4, .int x4), (8, .long x8), (10, .int x10), (13, .int x13)]) dX8_quotientBits_153 (by decide) rfl ?_
        refine hs_sub (lv' := [(4, .int x4), (6, .long ((x6 * (2 : Int64)) - x8)), (8, .long x8), (10, .int x10), (11, .long ((x11 * (2 : Int64)) + (1 : Int64))), (13, .int x13)]) [2, 1, 3, 4, 0, 5] rfl ?_
        exact c_X8_quotientBits_b155 (f_X8_quotientBits_b111 n) ih h
set_option maxHeartbeats 4000000 in
set_option maxRecDepth 20000 in
theorem c_X8_quotientBits_b98 {G : hb_G} {l : Launch} {z : Bool}  {x4 : Int32} {x6 : Int64} {x8 : Int64} {x10 : Int32} {σ : hb_M} {r : (Int64 × hb_M)} (h : f_X8_quotientBits_b98 x4 x6 x8 x10 σ = some r) : hb_T G l z mX8_quotientBits 0 0 0 98 [(4, .int x4), (6, .long x6), (8, .long x8), (10, .int x10)] [] σ (.inl (some (.long r.1)), r.2) := by
  unfold f_X8_quotientBits_b98 at h
  refine hs_lload dX8_quotientBits_98 1 rfl ?_
  refine hs_lload dX8_quotientBits_100 2 rfl ?_
  refine hs_lsub dX8_quotientBits_102 ?_
  refine hs_lstore (lv' := [(6, .long (x6 - x8)), (4, .int x4), (8, .long x8), (10, .int x10)]) dX8_quotientBits_103 (by decide) rfl ?_
  refine hs_lconst (v := (0 : Int64)) dX8_quotientBits_105 (by decide) ?_
  refine hs_lstore (lv' := [(11, .long (0 : Int64)), (6, .long (x6 - x8)), (4, .int x4), (8, .long x8), (10, .int x10)]) dX8_quotientBits_106 (by decide) rfl ?_
  refine hs_iconst (v := (0 : Int32)) dX8_quotientBits_108 (by decide) ?_
  refine hs_istore (lv' := [(13, .int (0 : Int32)), (11, .long (0 : Int64)), (6, .long (x6 - x8)), (4, .int x4), (8, .long x8), (10, .int x10)]) dX8_quotientBits_109 (by decide) rfl ?_
  refine hs_sub (lv' := [(4, .int x4), (6, .long (x6 - x8)), (8, .long x8), (10, .int x10), (11, .long (0 : Int64)), (13, .int (0 : Int32))]) [3, 2, 4, 5, 1, 0] rfl ?_
  exact c_X8_quotientBits_b111 hb_FU _ _ _ _ _ _ _ _ h
set_option maxHeartbeats 4000000 in
set_option maxRecDepth 20000 in
theorem c_X8_quotientBits_b66 {G : hb_G} {l : Launch} {z : Bool} : ∀ (n : Nat) (x4 : Int32) (x6 : Int64) (x8 : Int64) (x10 : Int32) (x11 : Int32) (σ : hb_M) (r : (Int64 × hb_M)), f_X8_quotientBits_b66 n x4 x6 x8 x10 x11 σ = some r → hb_T G l z mX8_quotientBits 0 0 0 66 [(4, .int x4), (6, .long x6), (8, .long x8), (10, .int x10), (11, .int x11)] [] σ (.inl (some (.long r.1)), r.2) := by
  intro n
  induction n with
  | zero =>
    intro x4 x6 x8 x10 x11 σ r h
    cases h
  | succ n ih =>
    intro x4 x6 x8 x10 x11 σ r h
    rw [f_X8_quotientBits_b66] at h
    refine hs_iload dX8_quotientBits_66 4 rfl ?_
    refine hs_bipush (v := (32 : Int32)) dX8_quotientBits_68 (by decide) ?_
    refine hs_icmp_ge (tgt := 98) dX8_quotientBits_70 (by decide) (fun hc1 => ?_) (fun hc1 => ?_)
    · rw [if_pos hc1] at h
      refine hs_sub (lv' := [(4, .int x4), (6, .long x6), (8, .long x8), (10, .int x10)]) [0, 1, 2, 3] rfl ?_
      exact c_X8_quotientBits_b98 h
    · rw [if_neg hc1] at h
      refine hs_lload dX8_quotientBits_73 1 rfl ?_
      refine hs_lload dX8_quotientBits_75 2 rfl ?_
      refine hs_lcmp dX8_quotientBits_77 ?_
      refine hs_if_ge (tgt := 98) dX8_quotientBits_78 (by decide) (fun hc2 => ?_) (fun hc2 => ?_)
      · rw [if_pos hc2] at h
        refine hs_sub (lv' := [(4, .int x4), (6, .long x6), (8, .long x8), (10, .int x10)]) [0, 1, 2, 3] rfl ?_
        exact c_X8_quotientBits_b98 h
      · rw [if_neg hc2] at h
        refine hs_lload dX8_quotientBits_81 1 rfl ?_
        refine hs_ldc2 (v := (2 : Int64)) dX8_quotientBits_83 wd_1200 ?_
        refine hs_lmul dX8_quotientBits_86 ?_
        refine hs_lstore (lv' := [(6, .long (x6 * (2 : Int64))), (4, .int x4), (8, .long x8), (10, .int x10), (11, .int x11)]) dX8_quotientBits_87 (by decide) rfl ?_
        refine hs_iinc2 (k := (-1 : Int32)) (lv' := [(10, .int (x10 + (-1 : Int32))), (6, .long (x6 * (2 : Int64))), (4, .int x4), (8, .long x8), (11, .int x11)]) dX8_quotientBits_89 (by decide) 3 rfl (by decide) rfl ?_
        refine hs_iinc2 (k := (1 : Int32)) (lv' := [(11, .int (x11 + (1 : Int32))), (10, .int (x10 + (-1 : Int32))), (6, .long (x6 * (2 : Int64))), (4, .int x4), (8, .long x8)]) dX8_quotientBits_92 (by decide) 4 rfl (by decide) rfl ?_
        refine hs_goto (tgt := 66) dX8_quotientBits_95 (by decide) ?_
        refine hs_sub (lv' := [(4, .int x4), (6, .long (x6 * (2 : Int64))), (8, .long x8), (10, .int (x10 + (-1 : Int32))), (11, .int (x11 + (1 : Int32)))]) [3, 2, 4, 1, 0] rfl ?_
        exact ih _ _ _ _ _ _ _ h
set_option maxHeartbeats 4000000 in
set_option maxRecDepth 20000 in
theorem c_X8_quotientBits_b63 {G : hb_G} {l : Launch} {z : Bool}  {x4 : Int32} {x6 : Int64} {x8 : Int64} {x10 : Int32} {σ : hb_M} {r : (Int64 × hb_M)} (h : f_X8_quotientBits_b63 x4 x6 x8 x10 σ = some r) : hb_T G l z mX8_quotientBits 0 0 0 63 [(4, .int x4), (6, .long x6), (8, .long x8), (10, .int x10)] [] σ (.inl (some (.long r.1)), r.2) := by
  unfold f_X8_quotientBits_b63 at h
  refine hs_iconst (v := (0 : Int32)) dX8_quotientBits_63 (by decide) ?_
  refine hs_istore (lv' := [(11, .int (0 : Int32)), (4, .int x4), (6, .long x6), (8, .long x8), (10, .int x10)]) dX8_quotientBits_64 (by decide) rfl ?_
  refine hs_sub (lv' := [(4, .int x4), (6, .long x6), (8, .long x8), (10, .int x10), (11, .int (0 : Int32))]) [1, 2, 3, 4, 0] rfl ?_
  exact c_X8_quotientBits_b66 hb_FU _ _ _ _ _ _ _ h
set_option maxHeartbeats 4000000 in
set_option maxRecDepth 20000 in
theorem c_X8_quotientBits_b27 {G : hb_G} {l : Launch} {z : Bool} : ∀ (n : Nat) (x4 : Int32) (x6 : Int64) (x8 : Int64) (x10 : Int32) (x11 : Int32) (σ : hb_M) (r : (Int64 × hb_M)), f_X8_quotientBits_b27 n x4 x6 x8 x10 x11 σ = some r → hb_T G l z mX8_quotientBits 0 0 0 27 [(4, .int x4), (6, .long x6), (8, .long x8), (10, .int x10), (11, .int x11)] [] σ (.inl (some (.long r.1)), r.2) := by
  intro n
  induction n with
  | zero =>
    intro x4 x6 x8 x10 x11 σ r h
    cases h
  | succ n ih =>
    intro x4 x6 x8 x10 x11 σ r h
    rw [f_X8_quotientBits_b27] at h
    refine hs_iload dX8_quotientBits_27 4 rfl ?_
    refine hs_bipush (v := (32 : Int32)) dX8_quotientBits_29 (by decide) ?_
    refine hs_icmp_ge (tgt := 63) dX8_quotientBits_31 (by decide) (fun hc1 => ?_) (fun hc1 => ?_)
    · rw [if_pos hc1] at h
      refine hs_sub (lv' := [(4, .int x4), (6, .long x6), (8, .long x8), (10, .int x10)]) [0, 1, 2, 3] rfl ?_
      exact c_X8_quotientBits_b63 h
    · rw [if_neg hc1] at h
      refine hs_lload dX8_quotientBits_34 1 rfl ?_
      refine hs_ldc2 (v := (2 : Int64)) dX8_quotientBits_36 wd_1200 ?_
      refine hs_lload dX8_quotientBits_39 2 rfl ?_
      refine hs_lmul dX8_quotientBits_41 ?_
      refine hs_lcmp dX8_quotientBits_42 ?_
      refine hs_if_lt (tgt := 63) dX8_quotientBits_43 (by decide) (fun hc2 => ?_) (fun hc2 => ?_)
      · rw [if_pos hc2] at h
        refine hs_sub (lv' := [(4, .int x4), (6, .long x6), (8, .long x8), (10, .int x10)]) [0, 1, 2, 3] rfl ?_
        exact c_X8_quotientBits_b63 h
      · rw [if_neg hc2] at h
        refine hs_lload dX8_quotientBits_46 2 rfl ?_
        refine hs_ldc2 (v := (2 : Int64)) dX8_quotientBits_48 wd_1200 ?_
        refine hs_lmul dX8_quotientBits_51 ?_
        refine hs_lstore (lv' := [(8, .long (x8 * (2 : Int64))), (4, .int x4), (6, .long x6), (10, .int x10), (11, .int x11)]) dX8_quotientBits_52 (by decide) rfl ?_
        refine hs_iinc2 (k := (1 : Int32)) (lv' := [(10, .int (x10 + (1 : Int32))), (8, .long (x8 * (2 : Int64))), (4, .int x4), (6, .long x6), (11, .int x11)]) dX8_quotientBits_54 (by decide) 3 rfl (by decide) rfl ?_
        refine hs_iinc2 (k := (1 : Int32)) (lv' := [(11, .int (x11 + (1 : Int32))), (10, .int (x10 + (1 : Int32))), (8, .long (x8 * (2 : Int64))), (4, .int x4), (6, .long x6)]) dX8_quotientBits_57 (by decide) 4 rfl (by decide) rfl ?_
        refine hs_goto (tgt := 27) dX8_quotientBits_60 (by decide) ?_
        refine hs_sub (lv' := [(4, .int x4), (6, .long x6), (8, .long (x8 * (2 : Int64))), (10, .int (x10 + (1 : Int32))), (11, .int (x11 + (1 : Int32)))]) [3, 4, 2, 1, 0] rfl ?_
        exact ih _ _ _ _ _ _ _ h
set_option maxHeartbeats 4000000 in
set_option maxRecDepth 20000 in
theorem c_X8_quotientBits {G : hb_G} {l : Launch} {z : Bool} {x0 : Int64} {x2 : Int64} {x4 : Int32} {x5 : Int32} {σ : hb_M} {r : (Int64 × hb_M)} (h : f_X8_quotientBits x0 x2 x4 x5 σ = some r) : hb_Call G l z 0 0 0 mX8_quotientBits [.long x0, .long x2, .int x4, .int x5] σ (.inl (some (.long r.1)), r.2) := by
  refine hb_met (by decide) (Nat.le_of_ble_eq_true rfl) ?_
  unfold f_X8_quotientBits at h
  refine hs_lload_n dX8_quotientBits_0 0 rfl ?_
  refine hs_lconst (v := (0 : Int64)) dX8_quotientBits_1 (by decide) ?_
  refine hs_lcmp dX8_quotientBits_2 ?_
  refine hs_if_le (tgt := 12) dX8_quotientBits_3 (by decide) (fun hc1 => ?_) (fun hc1 => ?_)
  · rw [if_pos hc1] at h
    refine hs_lconst (v := (0 : Int64)) dX8_quotientBits_12 (by decide) ?_
    obtain rfl := Option.some.inj h
    exact hs_lreturn dX8_quotientBits_13 rfl (fun _ => rfl)
  · rw [if_neg hc1] at h
    refine hs_lload_n dX8_quotientBits_6 1 rfl ?_
    refine hs_lconst (v := (0 : Int64)) dX8_quotientBits_7 (by decide) ?_
    refine hs_lcmp dX8_quotientBits_8 ?_
    refine hs_if_gt (tgt := 14) dX8_quotientBits_9 (by decide) (fun hc2 => ?_) (fun hc2 => ?_)
    · rw [if_pos hc2] at h
      refine hs_lload_n dX8_quotientBits_14 0 rfl ?_
      refine hs_lstore (lv' := [(6, .long x0), (0, .long x0), (2, .long x2), (4, .int x4), (5, .int x5)]) dX8_quotientBits_15 (by decide) rfl ?_
      refine hs_lload_n dX8_quotientBits_17 2 rfl ?_
      refine hs_lstore (lv' := [(8, .long x2), (6, .long x0), (0, .long x0), (2, .long x2), (4, .int x4), (5, .int x5)]) dX8_quotientBits_18 (by decide) rfl ?_
      refine hs_iload dX8_quotientBits_20 5 rfl ?_
      refine hs_istore (lv' := [(10, .int x5), (8, .long x2), (6, .long x0), (0, .long x0), (2, .long x2), (4, .int x4), (5, .int x5)]) dX8_quotientBits_22 (by decide) rfl ?_
      refine hs_iconst (v := (0 : Int32)) dX8_quotientBits_24 (by decide) ?_
      refine hs_istore (lv' := [(11, .int (0 : Int32)), (10, .int x5), (8, .long x2), (6, .long x0), (0, .long x0), (2, .long x2), (4, .int x4), (5, .int x5)]) dX8_quotientBits_25 (by decide) rfl ?_
      refine hs_sub (lv' := [(4, .int x4), (6, .long x0), (8, .long x2), (10, .int x5), (11, .int (0 : Int32))]) [6, 3, 2, 1, 0] rfl ?_
      exact c_X8_quotientBits_b27 hb_FU _ _ _ _ _ _ _ h
    · rw [if_neg hc2] at h
      refine hs_lconst (v := (0 : Int64)) dX8_quotientBits_12 (by decide) ?_
      obtain rfl := Option.some.inj h
      exact hs_lreturn dX8_quotientBits_13 rfl (fun _ => rfl)
def mX8_meanRetainedBits : hb_Y := (yX8_meanRetainedBits, cX8_meanRetainedBits, 6, (some .long), [], false)
set_option maxHeartbeats 4000000 in
set_option maxRecDepth 20000 in
theorem c_X8_meanRetainedBits_b77 {G : hb_G} {l : Launch} (hl : l.stackTraces = false)  (k45 : Nat → Int64 → Int32 → Int32 → hb_M → Option ((String ⊕ Int64) × hb_M)) (hk45 : ∀ (x0 : Nat) (x2 : Int64) (x4 : Int32) (x5 : Int32) (σ : hb_M) (r : ((String ⊕ Int64) × hb_M)), k45 x0 x2 x4 x5 σ = some r → hb_T G l true mX8_meanRetainedBits 4 0 0 45 [(0, .ref x0), (2, .long x2), (4, .int x4), (5, .int x5)] [] σ (hb_xl r))  {x0 : Nat} {x2 : Int64} {x5 : Int32} {s0 : Int32} {s1 : Int32} {σ : hb_M} {r : ((String ⊕ Int64) × hb_M)} (h : f_X8_meanRetainedBits_b77 k45 x0 x2 x5 s0 s1 σ = some r) : hb_T G l true mX8_meanRetainedBits 4 0 0 77 [(0, .ref x0), (2, .long x2), (5, .int x5)] [.int s1, .int s0] σ (hb_xl r) := by
  unfold f_X8_meanRetainedBits_b77 at h
  refine hs_iadd dX8_meanRetainedBits_77 ?_
  refine hs_istore (lv' := [(4, .int (s0 + s1)), (0, .ref x0), (2, .long x2), (5, .int x5)]) dX8_meanRetainedBits_78 (by decide) rfl ?_
  refine hs_iinc2 (k := (1 : Int32)) (lv' := [(5, .int (x5 + (1 : Int32))), (4, .int (s0 + s1)), (0, .ref x0), (2, .long x2)]) dX8_meanRetainedBits_80 (by decide) 3 rfl (by decide) rfl ?_
  refine hs_goto (tgt := 45) dX8_meanRetainedBits_83 (by decide) ?_
  refine hs_sub (lv' := [(0, .ref x0), (2, .long x2), (4, .int (s0 + s1)), (5, .int (x5 + (1 : Int32)))]) [2, 3, 1, 0] rfl ?_
  exact hk45 _ _ _ _ _ _ h
set_option maxHeartbeats 4000000 in
set_option maxRecDepth 20000 in
theorem c_X8_meanRetainedBits_b45 {G : hb_G} {l : Launch} (hl : l.stackTraces = false) : ∀ (n : Nat) (x0 : Nat) (x2 : Int64) (x4 : Int32) (x5 : Int32) (σ : hb_M) (r : ((String ⊕ Int64) × hb_M)), f_X8_meanRetainedBits_b45 n x0 x2 x4 x5 σ = some r → hb_T G l true mX8_meanRetainedBits 4 0 0 45 [(0, .ref x0), (2, .long x2), (4, .int x4), (5, .int x5)] [] σ (hb_xl r) := by
  intro n
  induction n with
  | zero =>
    intro x0 x2 x4 x5 σ r h
    cases h
  | succ n ih =>
    intro x0 x2 x4 x5 σ r h
    rw [f_X8_meanRetainedBits_b45] at h
    refine hs_iload dX8_meanRetainedBits_45 3 rfl ?_
    refine hs_bipush (v := (40 : Int32)) dX8_meanRetainedBits_47 (by decide) ?_
    refine hs_icmp_ge (tgt := 86) dX8_meanRetainedBits_49 (by decide) (fun hc1 => ?_) (fun hc1 => ?_)
    · rw [if_pos hc1] at h
      refine hs_iload dX8_meanRetainedBits_86 2 rfl ?_
      refine hs_i2l dX8_meanRetainedBits_88 ?_
      refine hs_lload_n dX8_meanRetainedBits_89 1 rfl ?_
      obtain ⟨r2, h2, h⟩ := hb_bind h
      refine hs_callSi (μ' := mJ13_bitCount_95d88) (mc := 0) (ms := 0) (rc := 0) (rs := 0) (As := [.long x2]) (rest := [.long x4.toInt64]) dX8_meanRetainedBits_90 lmX8_212 okJ13_bitCount_95d88 rfl (by decide) rfl (Nat.le_of_ble_eq_true rfl) (c_J13_bitCount_95d88 h2) ?_
      refine hs_i2l dX8_meanRetainedBits_93 ?_
      refine hs_bipush (v := (52 : Int32)) dX8_meanRetainedBits_94 (by decide) ?_
      refine hs_sipush (v := (1023 : Int32)) dX8_meanRetainedBits_96 (by decide) ?_
      obtain ⟨r3, h3, h⟩ := hb_bind h
      refine hs_callSl (μ' := mX8_quotientBits) (mc := 0) (ms := 0) (rc := 0) (rs := 0) (As := [.long x4.toInt64, .long r2.1.toInt64, .int (52 : Int32), .int (1023 : Int32)]) (rest := []) dX8_meanRetainedBits_99 lmX8_261 okX8_quotientBits rfl (by decide) rfl (Nat.le_of_ble_eq_true rfl) (c_X8_quotientBits h3) ?_
      obtain rfl := Option.some.inj h
      exact hs_lreturn dX8_meanRetainedBits_102 rfl (fun _ => rfl)
    · rw [if_neg hc1] at h
      refine hs_iload dX8_meanRetainedBits_52 2 rfl ?_
      refine hs_lload_n dX8_meanRetainedBits_54 1 rfl ?_
      refine hs_iload dX8_meanRetainedBits_55 3 rfl ?_
      obtain ⟨r4, h4, h⟩ := hb_bind h
      refine hs_callSi (μ' := mX8_contains) (mc := 0) (ms := 0) (rc := 0) (rs := 0) (As := [.long x2, .int x5]) (rest := [.int x4]) dX8_meanRetainedBits_57 lmX8_205 okX8_contains rfl (by decide) rfl (Nat.le_of_ble_eq_true rfl) (c_X8_contains h4) ?_
      refine hs_if_eq (tgt := 76) dX8_meanRetainedBits_60 (by decide) (fun hc5 => ?_) (fun hc5 => ?_)
      · rw [if_pos hc5] at h
        refine hs_iconst (v := (0 : Int32)) dX8_meanRetainedBits_76 (by decide) ?_
        refine hs_sub (lv' := [(0, .ref x0), (2, .long x2), (5, .int x5)]) [0, 1, 3] rfl ?_
        exact c_X8_meanRetainedBits_b77 hl (f_X8_meanRetainedBits_b45 n) ih h
      · rw [if_neg hc5] at h
        refine hs_aload_n dX8_meanRetainedBits_63 0 rfl ?_
        obtain ⟨r6, h6, h⟩ := hb_bind h
        refine hs_getR dX8_meanRetainedBits_64 lkX8_21 rfl h6 ?_
        obtain ⟨r7, h7, h⟩ := hb_bind h
        refine hs_getR dX8_meanRetainedBits_67 lkX8_226 rfl h7 ?_
        refine hs_iload dX8_meanRetainedBits_70 3 rfl ?_
        obtain ⟨r8, h8, h⟩ := hb_bind h
        refine hs_iald dX8_meanRetainedBits_72 h8 ?_
        refine hs_goto (tgt := 77) dX8_meanRetainedBits_73 (by decide) ?_
        refine hs_sub (lv' := [(0, .ref x0), (2, .long x2), (5, .int x5)]) [0, 1, 3] rfl ?_
        exact c_X8_meanRetainedBits_b77 hl (f_X8_meanRetainedBits_b45 n) ih h
set_option maxHeartbeats 4000000 in
set_option maxRecDepth 20000 in
theorem c_X8_meanRetainedBits {G : hb_G} {l : Launch} (hl : l.stackTraces = false) {x0 : Nat} {x1 : Int32} {σ : hb_M} {r : ((String ⊕ Int64) × hb_M)} (h : f_X8_meanRetainedBits x0 x1 σ = some r) : hb_Call G l true 4 1 6 mX8_meanRetainedBits [.ref x0, .int x1] σ (hb_xl r) := by
  refine hb_met (by decide) (Nat.le_of_ble_eq_true rfl) ?_
  unfold f_X8_meanRetainedBits at h
  refine hs_aload_n dX8_meanRetainedBits_0 0 rfl ?_
  obtain ⟨r1, h1, h⟩ := hb_bind h
  refine hs_getR dX8_meanRetainedBits_1 lkX8_10 rfl h1 ?_
  refine hs_iload_n dX8_meanRetainedBits_4 1 rfl ?_
  obtain ⟨r2, h2, h⟩ := hb_bind h
  obtain ⟨h2, nf2, hb2⟩ := hb_on_at h2
  refine hs_callVi (μ' := mX4_hasGroup) (mc := 0) (ms := 0) (rc := 1) (rs := 6) (As := [.int x1]) (rest := []) (ci := 4) dX8_meanRetainedBits_5 lmX8_244 okX4_hasGroup rfl (by decide) rfl (Nat.le_of_ble_eq_true rfl) rfl hb2 (c_X4_hasGroup h2) ?_
  rcases hb_xb_at h with ⟨E3, r3, h3, hr3⟩ | ⟨v3, r3, h3, h⟩
  · subst hr3
    exact hs_callSx (μ' := mX8_refuseUnless) (mc := 1) (ms := 6) (rc := 0) (rs := 0) (As := [.int r2.1]) (rest := []) dX8_meanRetainedBits_8 lmX8_100 okX8_refuseUnless rfl (by decide) rfl (Nat.le_of_ble_eq_true rfl) (c_X8_refuseUnless hl h3) rfl
  refine hs_callSv (μ' := mX8_refuseUnless) (mc := 1) (ms := 6) (rc := 0) (rs := 0) (As := [.int r2.1]) (rest := []) dX8_meanRetainedBits_8 lmX8_100 okX8_refuseUnless rfl (by decide) rfl (Nat.le_of_ble_eq_true rfl) (c_X8_refuseUnless hl h3) ?_
  refine hs_aload_n dX8_meanRetainedBits_11 0 rfl ?_
  obtain ⟨r4, h4, h⟩ := hb_bind h
  refine hs_getR dX8_meanRetainedBits_12 lkX8_21 rfl h4 ?_
  obtain ⟨r5, h5, h⟩ := hb_bind h
  obtain ⟨h5, nf5, hb5⟩ := hb_on_at h5
  refine hs_callVv (μ' := mX0_refresh) (mc := 0) (ms := 0) (rc := 0) (rs := 0) (As := []) (rest := []) (ci := 0) dX8_meanRetainedBits_15 lmX8_171 okX0_refresh rfl (by decide) rfl (Nat.le_of_ble_eq_true rfl) rfl hb5 (c_X0_refresh h5) ?_
  refine hs_aload_n dX8_meanRetainedBits_18 0 rfl ?_
  obtain ⟨r6, h6, h⟩ := hb_bind h
  refine hs_getR dX8_meanRetainedBits_19 lkX8_10 rfl h6 ?_
  refine hs_iload_n dX8_meanRetainedBits_22 1 rfl ?_
  refine hs_iconst (v := (0 : Int32)) dX8_meanRetainedBits_23 (by decide) ?_
  obtain ⟨r7, h7, h⟩ := hb_bind h
  obtain ⟨h7, nf7, hb7⟩ := hb_on_at h7
  refine hs_callVl (μ' := mX4_membersOf) (mc := 0) (ms := 0) (rc := 0) (rs := 0) (As := [.int x1, .int (0 : Int32)]) (rest := []) (ci := 4) dX8_meanRetainedBits_24 lmX8_247 okX4_membersOf rfl (by decide) rfl (Nat.le_of_ble_eq_true rfl) rfl hb7 (c_X4_membersOf h7) ?_
  refine hs_aload_n dX8_meanRetainedBits_27 0 rfl ?_
  obtain ⟨r8, h8, h⟩ := hb_bind h
  refine hs_getR dX8_meanRetainedBits_28 lkX8_21 rfl h8 ?_
  obtain ⟨r9, h9, h⟩ := hb_bind h
  refine hs_getR dX8_meanRetainedBits_31 lkX8_189 rfl h9 ?_
  obtain ⟨r10, h10, h⟩ := hb_bind h
  refine hs_getL dX8_meanRetainedBits_34 lkX8_251 rfl h10 ?_
  refine hs_land dX8_meanRetainedBits_37 ?_
  refine hs_lstore_n (lv' := [(2, .long (r7.1 &&& r10)), (0, .ref x0), (1, .int x1)]) dX8_meanRetainedBits_38 (by decide) rfl ?_
  refine hs_iconst (v := (0 : Int32)) dX8_meanRetainedBits_39 (by decide) ?_
  refine hs_istore (lv' := [(4, .int (0 : Int32)), (2, .long (r7.1 &&& r10)), (0, .ref x0), (1, .int x1)]) dX8_meanRetainedBits_40 (by decide) rfl ?_
  refine hs_iconst (v := (0 : Int32)) dX8_meanRetainedBits_42 (by decide) ?_
  refine hs_istore (lv' := [(5, .int (0 : Int32)), (4, .int (0 : Int32)), (2, .long (r7.1 &&& r10)), (0, .ref x0), (1, .int x1)]) dX8_meanRetainedBits_43 (by decide) rfl ?_
  refine hs_sub (lv' := [(0, .ref x0), (2, .long (r7.1 &&& r10)), (4, .int (0 : Int32)), (5, .int (0 : Int32))]) [3, 2, 1, 0] rfl ?_
  exact c_X8_meanRetainedBits_b45 hl hb_FU _ _ _ _ _ _ h
def mX8_shareBits : hb_Y := (yX8_shareBits, cX8_shareBits, 2, (some .int), [], false)
set_option maxHeartbeats 4000000 in
set_option maxRecDepth 20000 in
theorem c_X8_shareBits {G : hb_G} {l : Launch} (hl : l.stackTraces = false) {x0 : Nat} {x1 : Int32} {σ : hb_M} {r : ((String ⊕ Int32) × hb_M)} (h : f_X8_shareBits x0 x1 σ = some r) : hb_Call G l true 4 1 6 mX8_shareBits [.ref x0, .int x1] σ (hb_xi r) := by
  refine hb_met (by decide) (Nat.le_of_ble_eq_true rfl) ?_
  unfold f_X8_shareBits at h
  refine hs_aload_n dX8_shareBits_0 0 rfl ?_
  obtain ⟨r1, h1, h⟩ := hb_bind h
  refine hs_getR dX8_shareBits_1 lkX8_10 rfl h1 ?_
  refine hs_iload_n dX8_shareBits_4 1 rfl ?_
  obtain ⟨r2, h2, h⟩ := hb_bind h
  obtain ⟨h2, nf2, hb2⟩ := hb_on_at h2
  refine hs_callVi (μ' := mX4_hasObject) (mc := 0) (ms := 0) (rc := 1) (rs := 6) (As := [.int x1]) (rest := []) (ci := 4) dX8_shareBits_5 lmX8_146 okX4_hasObject rfl (by decide) rfl (Nat.le_of_ble_eq_true rfl) rfl hb2 (c_X4_hasObject h2) ?_
  rcases hb_xb_at h with ⟨E3, r3, h3, hr3⟩ | ⟨v3, r3, h3, h⟩
  · subst hr3
    exact hs_callSx (μ' := mX8_refuseUnless) (mc := 1) (ms := 6) (rc := 0) (rs := 0) (As := [.int r2.1]) (rest := []) dX8_shareBits_8 lmX8_100 okX8_refuseUnless rfl (by decide) rfl (Nat.le_of_ble_eq_true rfl) (c_X8_refuseUnless hl h3) rfl
  refine hs_callSv (μ' := mX8_refuseUnless) (mc := 1) (ms := 6) (rc := 0) (rs := 0) (As := [.int r2.1]) (rest := []) dX8_shareBits_8 lmX8_100 okX8_refuseUnless rfl (by decide) rfl (Nat.le_of_ble_eq_true rfl) (c_X8_refuseUnless hl h3) ?_
  refine hs_aload_n dX8_shareBits_11 0 rfl ?_
  obtain ⟨r4, h4, h⟩ := hb_bind h
  refine hs_getR dX8_shareBits_12 lkX8_21 rfl h4 ?_
  obtain ⟨r5, h5, h⟩ := hb_bind h
  obtain ⟨h5, nf5, hb5⟩ := hb_on_at h5
  refine hs_callVv (μ' := mX0_refresh) (mc := 0) (ms := 0) (rc := 0) (rs := 0) (As := []) (rest := []) (ci := 0) dX8_shareBits_15 lmX8_171 okX0_refresh rfl (by decide) rfl (Nat.le_of_ble_eq_true rfl) rfl hb5 (c_X0_refresh h5) ?_
  refine hs_aload_n dX8_shareBits_18 0 rfl ?_
  obtain ⟨r6, h6, h⟩ := hb_bind h
  refine hs_getR dX8_shareBits_19 lkX8_21 rfl h6 ?_
  obtain ⟨r7, h7, h⟩ := hb_bind h
  refine hs_getR dX8_shareBits_22 lkX8_226 rfl h7 ?_
  refine hs_iload_n dX8_shareBits_25 1 rfl ?_
  obtain ⟨r8, h8, h⟩ := hb_bind h
  refine hs_iald dX8_shareBits_26 h8 ?_
  refine hs_i2l dX8_shareBits_27 ?_
  refine hs_aload_n dX8_shareBits_28 0 rfl ?_
  obtain ⟨r9, h9, h⟩ := hb_bind h
  refine hs_getR dX8_shareBits_29 lkX8_21 rfl h9 ?_
  obtain ⟨r10, h10, h⟩ := hb_bind h
  refine hs_getI dX8_shareBits_32 lkX8_265 rfl h10 ?_
  refine hs_i2l dX8_shareBits_35 ?_
  refine hs_bipush (v := (23 : Int32)) dX8_shareBits_36 (by decide) ?_
  refine hs_bipush (v := (127 : Int32)) dX8_shareBits_38 (by decide) ?_
  obtain ⟨r11, h11, h⟩ := hb_bind h
  refine hs_callSl (μ' := mX8_quotientBits) (mc := 0) (ms := 0) (rc := 0) (rs := 0) (As := [.long r8.toInt64, .long r10.toInt64, .int (23 : Int32), .int (127 : Int32)]) (rest := []) dX8_shareBits_40 lmX8_261 okX8_quotientBits rfl (by decide) rfl (Nat.le_of_ble_eq_true rfl) (c_X8_quotientBits h11) ?_
  refine hs_l2i dX8_shareBits_43 ?_
  obtain rfl := Option.some.inj h
  exact hs_ireturn dX8_shareBits_44 rfl (by rfl) (fun _ => rfl)
def mX8_isPercent : hb_Y := (yX8_isPercent, cX8_isPercent, 1, (some .boolean), [], false)
theorem okX8_isPercent : hb_okS mX8_isPercent 1 := ⟨⟨hb_w 1 (by decide +kernel) (by decide +kernel), hb_w 1217 (by decide +kernel) (by decide +kernel), ⟨by decide +kernel, by decide +kernel, by decide +kernel⟩, by decide⟩, hb_w 1216 (by decide +kernel) (by decide +kernel)⟩
set_option maxHeartbeats 4000000 in
set_option maxRecDepth 20000 in
theorem c_X8_isPercent {G : hb_G} {l : Launch} {z : Bool} {x0 : Int32} {σ : hb_M} {r : (Int32 × hb_M)} (h : f_X8_isPercent x0 σ = some r) : hb_Call G l z 0 0 0 mX8_isPercent [.int x0] σ (.inl (some (.int r.1)), r.2) := by
  refine hb_met (by decide) (Nat.le_of_ble_eq_true rfl) ?_
  unfold f_X8_isPercent at h
  refine hs_iload_n dX8_isPercent_0 0 rfl ?_
  refine hs_iconst (v := (1 : Int32)) dX8_isPercent_1 (by decide) ?_
  refine hs_icmp_lt (tgt := 15) dX8_isPercent_2 (by decide) (fun hc1 => ?_) (fun hc1 => ?_)
  · rw [if_pos hc1] at h
    refine hs_iconst (v := (0 : Int32)) dX8_isPercent_15 (by decide) ?_
    obtain rfl := Option.some.inj h
    exact hs_ireturn dX8_isPercent_16 rfl (by decide) (fun _ => rfl)
  · rw [if_neg hc1] at h
    refine hs_iload_n dX8_isPercent_5 0 rfl ?_
    refine hs_bipush (v := (100 : Int32)) dX8_isPercent_6 (by decide) ?_
    refine hs_icmp_gt (tgt := 15) dX8_isPercent_8 (by decide) (fun hc2 => ?_) (fun hc2 => ?_)
    · rw [if_pos hc2] at h
      refine hs_iconst (v := (0 : Int32)) dX8_isPercent_15 (by decide) ?_
      obtain rfl := Option.some.inj h
      exact hs_ireturn dX8_isPercent_16 rfl (by decide) (fun _ => rfl)
    · rw [if_neg hc2] at h
      refine hs_iconst (v := (1 : Int32)) dX8_isPercent_11 (by decide) ?_
      refine hs_goto (tgt := 16) dX8_isPercent_12 (by decide) ?_
      obtain rfl := Option.some.inj h
      exact hs_ireturn dX8_isPercent_16 rfl (by decide) (fun _ => rfl)
def mX8_suspectAt : hb_Y := (yX8_suspectAt, cX8_suspectAt, 7, (some .int), [], false)
set_option maxHeartbeats 4000000 in
set_option maxRecDepth 20000 in
theorem c_X8_suspectAt_b51 {G : hb_G} {l : Launch} (hl : l.stackTraces = false) : ∀ (n : Nat) (x0 : Nat) (x2 : Int32) (x3 : Int64) (x5 : Int32) (x6 : Int32) (σ : hb_M) (r : ((String ⊕ Int32) × hb_M)), f_X8_suspectAt_b51 n x0 x2 x3 x5 x6 σ = some r → hb_T G l true mX8_suspectAt 4 0 0 51 [(0, .ref x0), (2, .int x2), (3, .long x3), (5, .int x5), (6, .int x6)] [] σ (hb_xi r) := by
  intro n
  induction n with
  | zero =>
    intro x0 x2 x3 x5 x6 σ r h
    cases h
  | succ n ih =>
    intro x0 x2 x3 x5 x6 σ r h
    rw [f_X8_suspectAt_b51] at h
    refine hs_iload dX8_suspectAt_51 4 rfl ?_
    refine hs_iload_n dX8_suspectAt_53 1 rfl ?_
    refine hs_icmp_gt (tgt := 85) dX8_suspectAt_54 (by decide) (fun hc1 => ?_) (fun hc1 => ?_)
    · rw [if_pos hc1] at h
      refine hs_iload dX8_suspectAt_85 3 rfl ?_
      obtain rfl := Option.some.inj h
      exact hs_ireturn dX8_suspectAt_87 rfl (by rfl) (fun _ => rfl)
    · rw [if_neg hc1] at h
      refine hs_aload_n dX8_suspectAt_57 0 rfl ?_
      obtain ⟨r2, h2, h⟩ := hb_bind h
      refine hs_getR dX8_suspectAt_58 lkX8_21 rfl h2 ?_
      refine hs_lload_n dX8_suspectAt_61 2 rfl ?_
      obtain ⟨r3, h3, h⟩ := hb_bind h
      obtain ⟨h3, nf3, hb3⟩ := hb_on_at h3
      refine hs_callVi (μ' := mX0_greatest) (mc := 0) (ms := 0) (rc := 0) (rs := 0) (As := [.long x3]) (rest := []) (ci := 0) dX8_suspectAt_62 lmX8_274 okX0_greatest rfl (by decide) rfl (Nat.le_of_ble_eq_true rfl) rfl hb3 (c_X0_greatest h3) ?_
      refine hs_istore (lv' := [(5, .int r3.1), (0, .ref x0), (2, .int x2), (3, .long x3), (6, .int x6)]) dX8_suspectAt_65 (by decide) rfl ?_
      refine hs_lload_n dX8_suspectAt_67 3 rfl ?_
      refine hs_iload dX8_suspectAt_68 0 rfl ?_
      obtain ⟨r4, h4, h⟩ := hb_bind h
      refine hs_callSl (μ' := mX8_member) (mc := 0) (ms := 0) (rc := 0) (rs := 0) (As := [.int r3.1]) (rest := [.long x3]) dX8_suspectAt_70 lmX8_277 okX8_member rfl (by decide) rfl (Nat.le_of_ble_eq_true rfl) (c_X8_member h4) ?_
      refine hs_ldc2 (v := (-1 : Int64)) dX8_suspectAt_73 wd_1231 ?_
      refine hs_lxor dX8_suspectAt_76 ?_
      refine hs_land dX8_suspectAt_77 ?_
      refine hs_lstore_n (lv' := [(3, .long (x3 &&& (r4.1 ^^^ (-1 : Int64)))), (5, .int r3.1), (0, .ref x0), (2, .int x2), (6, .int x6)]) dX8_suspectAt_78 (by decide) rfl ?_
      refine hs_iinc2 (k := (1 : Int32)) (lv' := [(6, .int (x6 + (1 : Int32))), (3, .long (x3 &&& (r4.1 ^^^ (-1 : Int64)))), (5, .int r3.1), (0, .ref x0), (2, .int x2)]) dX8_suspectAt_79 (by decide) 4 rfl (by decide) rfl ?_
      refine hs_goto (tgt := 51) dX8_suspectAt_82 (by decide) ?_
      refine hs_sub (lv' := [(0, .ref x0), (2, .int x2), (3, .long (x3 &&& (r4.1 ^^^ (-1 : Int64)))), (5, .int r3.1), (6, .int (x6 + (1 : Int32)))]) [3, 4, 1, 2, 0] rfl ?_
      exact ih _ _ _ _ _ _ _ h
set_option maxHeartbeats 4000000 in
set_option maxRecDepth 20000 in
theorem c_X8_suspectAt_b12 {G : hb_G} {l : Launch} (hl : l.stackTraces = false)  {x0 : Nat} {x1 : Int32} {x2 : Int32} {s0 : Int32} {σ : hb_M} {r : ((String ⊕ Int32) × hb_M)} (h : f_X8_suspectAt_b12 x0 x1 x2 s0 σ = some r) : hb_T G l true mX8_suspectAt 4 1 6 12 [(0, .ref x0), (1, .int x1), (2, .int x2)] [.int s0] σ (hb_xi r) := by
  unfold f_X8_suspectAt_b12 at h
  rcases hb_xb_at h with ⟨E1, r1, h1, hr1⟩ | ⟨v1, r1, h1, h⟩
  · subst hr1
    exact hs_callSx (μ' := mX8_refuse) (mc := 1) (ms := 6) (rc := 0) (rs := 0) (As := [.int s0]) (rest := []) dX8_suspectAt_12 lmX8_74 okX8_refuse rfl (by decide) rfl (Nat.le_of_ble_eq_true rfl) (c_X8_refuse hl h1) rfl
  refine hs_callSv (μ' := mX8_refuse) (mc := 1) (ms := 6) (rc := 0) (rs := 0) (As := [.int s0]) (rest := []) dX8_suspectAt_12 lmX8_74 okX8_refuse rfl (by decide) rfl (Nat.le_of_ble_eq_true rfl) (c_X8_refuse hl h1) ?_
  refine hs_aload_n dX8_suspectAt_15 0 rfl ?_
  obtain ⟨r2, h2, h⟩ := hb_bind h
  refine hs_getR dX8_suspectAt_16 lkX8_21 rfl h2 ?_
  obtain ⟨r3, h3, h⟩ := hb_bind h
  obtain ⟨h3, nf3, hb3⟩ := hb_on_at h3
  refine hs_callVv (μ' := mX0_refresh) (mc := 0) (ms := 0) (rc := 0) (rs := 0) (As := []) (rest := []) (ci := 0) dX8_suspectAt_19 lmX8_171 okX0_refresh rfl (by decide) rfl (Nat.le_of_ble_eq_true rfl) rfl hb3 (c_X0_refresh h3) ?_
  refine hs_aload_n dX8_suspectAt_22 0 rfl ?_
  obtain ⟨r4, h4, h⟩ := hb_bind h
  refine hs_getR dX8_suspectAt_23 lkX8_21 rfl h4 ?_
  refine hs_iload_n dX8_suspectAt_26 1 rfl ?_
  obtain ⟨r5, h5, h⟩ := hb_bind h
  obtain ⟨h5, nf5, hb5⟩ := hb_on_at h5
  refine hs_callVl (μ' := mX0_suspects) (mc := 0) (ms := 0) (rc := 0) (rs := 0) (As := [.int x1]) (rest := []) (ci := 0) dX8_suspectAt_27 lmX8_271 okX0_suspects rfl (by decide) rfl (Nat.le_of_ble_eq_true rfl) rfl hb5 (c_X0_suspects h5) ?_
  refine hs_lstore_n (lv' := [(3, .long r5.1), (0, .ref x0), (1, .int x1), (2, .int x2)]) dX8_suspectAt_30 (by decide) rfl ?_
  refine hs_iload_n dX8_suspectAt_31 3 rfl ?_
  refine hs_if_lt (tgt := 43) dX8_suspectAt_32 (by decide) (fun hc6 => ?_) (fun hc6 => ?_)
  · rw [if_pos hc6] at h
    refine hs_iconst (v := (-1 : Int32)) dX8_suspectAt_43 (by decide) ?_
    obtain rfl := Option.some.inj h
    exact hs_ireturn dX8_suspectAt_44 rfl (by rfl) (fun _ => rfl)
  · rw [if_neg hc6] at h
    refine hs_iload_n dX8_suspectAt_35 3 rfl ?_
    refine hs_lload_n dX8_suspectAt_36 0 rfl ?_
    obtain ⟨r7, h7, h⟩ := hb_bind h
    refine hs_callSi (μ' := mJ13_bitCount_95d88) (mc := 0) (ms := 0) (rc := 0) (rs := 0) (As := [.long r5.1]) (rest := [.int x2]) dX8_suspectAt_37 lmX8_212 okJ13_bitCount_95d88 rfl (by decide) rfl (Nat.le_of_ble_eq_true rfl) (c_J13_bitCount_95d88 h7) ?_
    refine hs_icmp_lt (tgt := 45) dX8_suspectAt_40 (by decide) (fun hc8 => ?_) (fun hc8 => ?_)
    · rw [if_pos hc8] at h
      refine hs_iconst (v := (-1 : Int32)) dX8_suspectAt_45 (by decide) ?_
      refine hs_istore (lv' := [(5, .int (-1 : Int32)), (3, .long r5.1), (0, .ref x0), (1, .int x1), (2, .int x2)]) dX8_suspectAt_46 (by decide) rfl ?_
      refine hs_iconst (v := (0 : Int32)) dX8_suspectAt_48 (by decide) ?_
      refine hs_istore (lv' := [(6, .int (0 : Int32)), (5, .int (-1 : Int32)), (3, .long r5.1), (0, .ref x0), (1, .int x1), (2, .int x2)]) dX8_suspectAt_49 (by decide) rfl ?_
      refine hs_sub (lv' := [(0, .ref x0), (2, .int x2), (3, .long r5.1), (5, .int (-1 : Int32)), (6, .int (0 : Int32))]) [3, 5, 2, 1, 0] rfl ?_
      exact c_X8_suspectAt_b51 hl hb_FU _ _ _ _ _ _ _ h
    · rw [if_neg hc8] at h
      refine hs_iconst (v := (-1 : Int32)) dX8_suspectAt_43 (by decide) ?_
      obtain rfl := Option.some.inj h
      exact hs_ireturn dX8_suspectAt_44 rfl (by rfl) (fun _ => rfl)
set_option maxHeartbeats 4000000 in
set_option maxRecDepth 20000 in
theorem c_X8_suspectAt {G : hb_G} {l : Launch} (hl : l.stackTraces = false) {x0 : Nat} {x1 : Int32} {x2 : Int32} {σ : hb_M} {r : ((String ⊕ Int32) × hb_M)} (h : f_X8_suspectAt x0 x1 x2 σ = some r) : hb_Call G l true 4 1 6 mX8_suspectAt [.ref x0, .int x1, .int x2] σ (hb_xi r) := by
  refine hb_met (by decide) (Nat.le_of_ble_eq_true rfl) ?_
  unfold f_X8_suspectAt at h
  refine hs_iload_n dX8_suspectAt_0 1 rfl ?_
  obtain ⟨r1, h1, h⟩ := hb_bind h
  refine hs_callSi (μ' := mX8_isPercent) (mc := 0) (ms := 0) (rc := 1) (rs := 6) (As := [.int x1]) (rest := []) dX8_suspectAt_1 lmX8_268 okX8_isPercent rfl (by decide) rfl (Nat.le_of_ble_eq_true rfl) (c_X8_isPercent h1) ?_
  refine hs_if_eq (tgt := 11) dX8_suspectAt_4 (by decide) (fun hc2 => ?_) (fun hc2 => ?_)
  · rw [if_pos hc2] at h
    refine hs_iconst (v := (2 : Int32)) dX8_suspectAt_11 (by decide) ?_
    refine hs_sub (lv' := [(0, .ref x0), (1, .int x1), (2, .int x2)]) [0, 1, 2] rfl ?_
    exact c_X8_suspectAt_b12 hl h
  · rw [if_neg hc2] at h
    refine hs_iconst (v := (0 : Int32)) dX8_suspectAt_7 (by decide) ?_
    refine hs_goto (tgt := 12) dX8_suspectAt_8 (by decide) ?_
    refine hs_sub (lv' := [(0, .ref x0), (1, .int x1), (2, .int x2)]) [0, 1, 2] rfl ?_
    exact c_X8_suspectAt_b12 hl h
def mX8_accumulationPoint : hb_Y := (yX8_accumulationPoint, cX8_accumulationPoint, 3, (some .int), [], false)
set_option maxHeartbeats 4000000 in
set_option maxRecDepth 20000 in
theorem c_X8_accumulationPoint_b55 {G : hb_G} {l : Launch} (hl : l.stackTraces = false)  {x0 : Nat} {x1 : Int32} {x2 : Int32} {s0 : Int32} {σ : hb_M} {r : ((String ⊕ Int32) × hb_M)} (h : f_X8_accumulationPoint_b55 x0 x1 x2 s0 σ = some r) : hb_T G l true mX8_accumulationPoint 4 1 6 55 [(0, .ref x0), (1, .int x1), (2, .int x2)] [.int s0] σ (hb_xi r) := by
  unfold f_X8_accumulationPoint_b55 at h
  rcases hb_xb_at h with ⟨E1, r1, h1, hr1⟩ | ⟨v1, r1, h1, h⟩
  · subst hr1
    exact hs_callSx (μ' := mX8_refuse) (mc := 1) (ms := 6) (rc := 0) (rs := 0) (As := [.int s0]) (rest := []) dX8_accumulationPoint_55 lmX8_74 okX8_refuse rfl (by decide) rfl (Nat.le_of_ble_eq_true rfl) (c_X8_refuse hl h1) rfl
  refine hs_callSv (μ' := mX8_refuse) (mc := 1) (ms := 6) (rc := 0) (rs := 0) (As := [.int s0]) (rest := []) dX8_accumulationPoint_55 lmX8_74 okX8_refuse rfl (by decide) rfl (Nat.le_of_ble_eq_true rfl) (c_X8_refuse hl h1) ?_
  refine hs_aload_n dX8_accumulationPoint_58 0 rfl ?_
  obtain ⟨r2, h2, h⟩ := hb_bind h
  refine hs_getR dX8_accumulationPoint_59 lkX8_21 rfl h2 ?_
  refine hs_iload_n dX8_accumulationPoint_62 1 rfl ?_
  refine hs_iload_n dX8_accumulationPoint_63 2 rfl ?_
  obtain ⟨r3, h3, h⟩ := hb_bind h
  obtain ⟨h3, nf3, hb3⟩ := hb_on_at h3
  refine hs_callVi (μ' := mX0_accumulationFrom) (mc := 0) (ms := 0) (rc := 0) (rs := 0) (As := [.int x1, .int x2]) (rest := []) (ci := 0) dX8_accumulationPoint_64 lmX8_282 okX0_accumulationFrom rfl (by decide) rfl (Nat.le_of_ble_eq_true rfl) rfl hb3 (c_X0_accumulationFrom h3) ?_
  obtain rfl := Option.some.inj h
  exact hs_ireturn dX8_accumulationPoint_67 rfl (by rfl) (fun _ => rfl)
set_option maxHeartbeats 4000000 in
set_option maxRecDepth 20000 in
theorem c_X8_accumulationPoint_b23 {G : hb_G} {l : Launch} (hl : l.stackTraces = false)  {x0 : Nat} {x1 : Int32} {x2 : Int32} {s0 : Int32} {σ : hb_M} {r : ((String ⊕ Int32) × hb_M)} (h : f_X8_accumulationPoint_b23 x0 x1 x2 s0 σ = some r) : hb_T G l true mX8_accumulationPoint 4 2 12 23 [(0, .ref x0), (1, .int x1), (2, .int x2)] [.int s0] σ (hb_xi r) := by
  unfold f_X8_accumulationPoint_b23 at h
  rcases hb_xb_at h with ⟨E1, r1, h1, hr1⟩ | ⟨v1, r1, h1, h⟩
  · subst hr1
    exact hs_callSx (μ' := mX8_refuse) (mc := 1) (ms := 6) (rc := 1) (rs := 6) (As := [.int s0]) (rest := []) dX8_accumulationPoint_23 lmX8_74 okX8_refuse rfl (by decide) rfl (Nat.le_of_ble_eq_true rfl) (c_X8_refuse hl h1) rfl
  refine hs_callSv (μ' := mX8_refuse) (mc := 1) (ms := 6) (rc := 1) (rs := 6) (As := [.int s0]) (rest := []) dX8_accumulationPoint_23 lmX8_74 okX8_refuse rfl (by decide) rfl (Nat.le_of_ble_eq_true rfl) (c_X8_refuse hl h1) ?_
  refine hs_aload_n dX8_accumulationPoint_26 0 rfl ?_
  obtain ⟨r2, h2, h⟩ := hb_bind h
  refine hs_getR dX8_accumulationPoint_27 lkX8_21 rfl h2 ?_
  obtain ⟨r3, h3, h⟩ := hb_bind h
  obtain ⟨h3, nf3, hb3⟩ := hb_on_at h3
  refine hs_callVv (μ' := mX0_refresh) (mc := 0) (ms := 0) (rc := 1) (rs := 6) (As := []) (rest := []) (ci := 0) dX8_accumulationPoint_30 lmX8_171 okX0_refresh rfl (by decide) rfl (Nat.le_of_ble_eq_true rfl) rfl hb3 (c_X0_refresh h3) ?_
  refine hs_aload_n dX8_accumulationPoint_33 0 rfl ?_
  obtain ⟨r4, h4, h⟩ := hb_bind h
  refine hs_getR dX8_accumulationPoint_34 lkX8_21 rfl h4 ?_
  obtain ⟨r5, h5, h⟩ := hb_bind h
  refine hs_getR dX8_accumulationPoint_37 lkX8_189 rfl h5 ?_
  obtain ⟨r6, h6, h⟩ := hb_bind h
  refine hs_getL dX8_accumulationPoint_40 lkX8_251 rfl h6 ?_
  refine hs_iload_n dX8_accumulationPoint_43 1 rfl ?_
  obtain ⟨r7, h7, h⟩ := hb_bind h
  refine hs_callSi (μ' := mX8_contains) (mc := 0) (ms := 0) (rc := 1) (rs := 6) (As := [.long r6, .int x1]) (rest := []) dX8_accumulationPoint_44 lmX8_205 okX8_contains rfl (by decide) rfl (Nat.le_of_ble_eq_true rfl) (c_X8_contains h7) ?_
  refine hs_if_eq (tgt := 54) dX8_accumulationPoint_47 (by decide) (fun hc8 => ?_) (fun hc8 => ?_)
  · rw [if_pos hc8] at h
    refine hs_iconst (v := (3 : Int32)) dX8_accumulationPoint_54 (by decide) ?_
    refine hs_sub (lv' := [(0, .ref x0), (1, .int x1), (2, .int x2)]) [0, 1, 2] rfl ?_
    exact c_X8_accumulationPoint_b55 hl h
  · rw [if_neg hc8] at h
    refine hs_iconst (v := (0 : Int32)) dX8_accumulationPoint_50 (by decide) ?_
    refine hs_goto (tgt := 55) dX8_accumulationPoint_51 (by decide) ?_
    refine hs_sub (lv' := [(0, .ref x0), (1, .int x1), (2, .int x2)]) [0, 1, 2] rfl ?_
    exact c_X8_accumulationPoint_b55 hl h
set_option maxHeartbeats 4000000 in
set_option maxRecDepth 20000 in
theorem c_X8_accumulationPoint {G : hb_G} {l : Launch} (hl : l.stackTraces = false) {x0 : Nat} {x1 : Int32} {x2 : Int32} {σ : hb_M} {r : ((String ⊕ Int32) × hb_M)} (h : f_X8_accumulationPoint x0 x1 x2 σ = some r) : hb_Call G l true 4 3 18 mX8_accumulationPoint [.ref x0, .int x1, .int x2] σ (hb_xi r) := by
  refine hb_met (by decide) (Nat.le_of_ble_eq_true rfl) ?_
  unfold f_X8_accumulationPoint at h
  refine hs_aload_n dX8_accumulationPoint_0 0 rfl ?_
  obtain ⟨r1, h1, h⟩ := hb_bind h
  refine hs_getR dX8_accumulationPoint_1 lkX8_10 rfl h1 ?_
  refine hs_iload_n dX8_accumulationPoint_4 1 rfl ?_
  obtain ⟨r2, h2, h⟩ := hb_bind h
  obtain ⟨h2, nf2, hb2⟩ := hb_on_at h2
  refine hs_callVi (μ' := mX4_hasObject) (mc := 0) (ms := 0) (rc := 3) (rs := 18) (As := [.int x1]) (rest := []) (ci := 4) dX8_accumulationPoint_5 lmX8_146 okX4_hasObject rfl (by decide) rfl (Nat.le_of_ble_eq_true rfl) rfl hb2 (c_X4_hasObject h2) ?_
  rcases hb_xb_at h with ⟨E3, r3, h3, hr3⟩ | ⟨v3, r3, h3, h⟩
  · subst hr3
    exact hs_callSx (μ' := mX8_refuseUnless) (mc := 1) (ms := 6) (rc := 2) (rs := 12) (As := [.int r2.1]) (rest := []) dX8_accumulationPoint_8 lmX8_100 okX8_refuseUnless rfl (by decide) rfl (Nat.le_of_ble_eq_true rfl) (c_X8_refuseUnless hl h3) rfl
  refine hs_callSv (μ' := mX8_refuseUnless) (mc := 1) (ms := 6) (rc := 2) (rs := 12) (As := [.int r2.1]) (rest := []) dX8_accumulationPoint_8 lmX8_100 okX8_refuseUnless rfl (by decide) rfl (Nat.le_of_ble_eq_true rfl) (c_X8_refuseUnless hl h3) ?_
  refine hs_iload_n dX8_accumulationPoint_11 2 rfl ?_
  obtain ⟨r4, h4, h⟩ := hb_bind h
  refine hs_callSi (μ' := mX8_isPercent) (mc := 0) (ms := 0) (rc := 2) (rs := 12) (As := [.int x2]) (rest := []) dX8_accumulationPoint_12 lmX8_268 okX8_isPercent rfl (by decide) rfl (Nat.le_of_ble_eq_true rfl) (c_X8_isPercent h4) ?_
  refine hs_if_eq (tgt := 22) dX8_accumulationPoint_15 (by decide) (fun hc5 => ?_) (fun hc5 => ?_)
  · rw [if_pos hc5] at h
    refine hs_iconst (v := (2 : Int32)) dX8_accumulationPoint_22 (by decide) ?_
    refine hs_sub (lv' := [(0, .ref x0), (1, .int x1), (2, .int x2)]) [0, 1, 2] rfl ?_
    exact c_X8_accumulationPoint_b23 hl h
  · rw [if_neg hc5] at h
    refine hs_iconst (v := (0 : Int32)) dX8_accumulationPoint_18 (by decide) ?_
    refine hs_goto (tgt := 23) dX8_accumulationPoint_19 (by decide) ?_
    refine hs_sub (lv' := [(0, .ref x0), (1, .int x1), (2, .int x2)]) [0, 1, 2] rfl ?_
    exact c_X8_accumulationPoint_b23 hl h
def mX8_append : hb_Y := (yX8_append, cX8_append, 2, (some .int), [], false)
set_option maxHeartbeats 4000000 in
set_option maxRecDepth 20000 in
theorem c_X8_append_b35 {G : hb_G} {l : Launch} (hl : l.stackTraces = false)  {x0 : Nat} {x1 : Int32} {s0 : Int32} {σ : hb_M} {r : ((String ⊕ Int32) × hb_M)} (h : f_X8_append_b35 x0 x1 s0 σ = some r) : hb_T G l true mX8_append 1 1 6 35 [(0, .ref x0), (1, .int x1)] [.int s0] σ (hb_xi r) := by
  unfold f_X8_append_b35 at h
  rcases hb_xb_at h with ⟨E1, r1, h1, hr1⟩ | ⟨v1, r1, h1, h⟩
  · subst hr1
    exact hs_callSx (μ' := mX8_refuse) (mc := 1) (ms := 6) (rc := 0) (rs := 0) (As := [.int s0]) (rest := []) dX8_append_35 lmX8_74 okX8_refuse rfl (by decide) rfl (Nat.le_of_ble_eq_true rfl) (c_X8_refuse hl h1) rfl
  refine hs_callSv (μ' := mX8_refuse) (mc := 1) (ms := 6) (rc := 0) (rs := 0) (As := [.int s0]) (rest := []) dX8_append_35 lmX8_74 okX8_refuse rfl (by decide) rfl (Nat.le_of_ble_eq_true rfl) (c_X8_refuse hl h1) ?_
  refine hs_aload_n dX8_append_38 0 rfl ?_
  obtain ⟨r2, h2, h⟩ := hb_bind h
  refine hs_getR dX8_append_39 lkX8_35 rfl h2 ?_
  refine hs_iload_n dX8_append_42 1 rfl ?_
  obtain ⟨r3, h3, h⟩ := hb_bind h
  obtain ⟨h3, nf3, hb3⟩ := hb_on_at h3
  refine hs_callVv (μ' := mX7_add) (mc := 0) (ms := 0) (rc := 0) (rs := 0) (As := [.int x1]) (rest := []) (ci := 7) dX8_append_43 lmX8_288 okX7_add rfl (by decide) rfl (Nat.le_of_ble_eq_true rfl) rfl hb3 (c_X7_add h3) ?_
  refine hs_aload_n dX8_append_46 0 rfl ?_
  obtain ⟨r4, h4, h⟩ := hb_bind h
  refine hs_getR dX8_append_47 lkX8_35 rfl h4 ?_
  obtain ⟨r5, h5, h⟩ := hb_bind h
  refine hs_getI dX8_append_50 lkX8_285 rfl h5 ?_
  obtain rfl := Option.some.inj h
  exact hs_ireturn dX8_append_53 rfl (by rfl) (fun _ => rfl)
set_option maxHeartbeats 4000000 in
set_option maxRecDepth 20000 in
theorem c_X8_append_b15 {G : hb_G} {l : Launch} (hl : l.stackTraces = false)  {x0 : Nat} {x1 : Int32} {s0 : Int32} {σ : hb_M} {r : ((String ⊕ Int32) × hb_M)} (h : f_X8_append_b15 x0 x1 s0 σ = some r) : hb_T G l true mX8_append 1 2 12 15 [(0, .ref x0), (1, .int x1)] [.int s0] σ (hb_xi r) := by
  unfold f_X8_append_b15 at h
  rcases hb_xb_at h with ⟨E1, r1, h1, hr1⟩ | ⟨v1, r1, h1, h⟩
  · subst hr1
    exact hs_callSx (μ' := mX8_refuse) (mc := 1) (ms := 6) (rc := 1) (rs := 6) (As := [.int s0]) (rest := []) dX8_append_15 lmX8_74 okX8_refuse rfl (by decide) rfl (Nat.le_of_ble_eq_true rfl) (c_X8_refuse hl h1) rfl
  refine hs_callSv (μ' := mX8_refuse) (mc := 1) (ms := 6) (rc := 1) (rs := 6) (As := [.int s0]) (rest := []) dX8_append_15 lmX8_74 okX8_refuse rfl (by decide) rfl (Nat.le_of_ble_eq_true rfl) (c_X8_refuse hl h1) ?_
  refine hs_aload_n dX8_append_18 0 rfl ?_
  obtain ⟨r2, h2, h⟩ := hb_bind h
  refine hs_getR dX8_append_19 lkX8_35 rfl h2 ?_
  obtain ⟨r3, h3, h⟩ := hb_bind h
  refine hs_getI dX8_append_22 lkX8_285 rfl h3 ?_
  refine hs_bipush (v := (100 : Int32)) dX8_append_25 (by decide) ?_
  refine hs_icmp_ge (tgt := 34) dX8_append_27 (by decide) (fun hc4 => ?_) (fun hc4 => ?_)
  · rw [if_pos hc4] at h
    refine hs_iconst (v := (3 : Int32)) dX8_append_34 (by decide) ?_
    refine hs_sub (lv' := [(0, .ref x0), (1, .int x1)]) [0, 1] rfl ?_
    exact c_X8_append_b35 hl h
  · rw [if_neg hc4] at h
    refine hs_iconst (v := (0 : Int32)) dX8_append_30 (by decide) ?_
    refine hs_goto (tgt := 35) dX8_append_31 (by decide) ?_
    refine hs_sub (lv' := [(0, .ref x0), (1, .int x1)]) [0, 1] rfl ?_
    exact c_X8_append_b35 hl h
set_option maxHeartbeats 4000000 in
set_option maxRecDepth 20000 in
theorem c_X8_append_b14 {G : hb_G} {l : Launch} (hl : l.stackTraces = false)  {x0 : Nat} {x1 : Int32} {σ : hb_M} {r : ((String ⊕ Int32) × hb_M)} (h : f_X8_append_b14 x0 x1 σ = some r) : hb_T G l true mX8_append 1 2 12 14 [(0, .ref x0), (1, .int x1)] [] σ (hb_xi r) := by
  unfold f_X8_append_b14 at h
  refine hs_iconst (v := (2 : Int32)) dX8_append_14 (by decide) ?_
  refine hs_sub (lv' := [(0, .ref x0), (1, .int x1)]) [0, 1] rfl ?_
  exact c_X8_append_b15 hl h
set_option maxHeartbeats 4000000 in
set_option maxRecDepth 20000 in
theorem c_X8_append {G : hb_G} {l : Launch} (hl : l.stackTraces = false) {x0 : Nat} {x1 : Int32} {σ : hb_M} {r : ((String ⊕ Int32) × hb_M)} (h : f_X8_append x0 x1 σ = some r) : hb_Call G l true 1 2 12 mX8_append [.ref x0, .int x1] σ (hb_xi r) := by
  refine hb_met (by decide) (Nat.le_of_ble_eq_true rfl) ?_
  unfold f_X8_append at h
  refine hs_iload_n dX8_append_0 1 rfl ?_
  refine hs_if_lt (tgt := 14) dX8_append_1 (by decide) (fun hc1 => ?_) (fun hc1 => ?_)
  · rw [if_pos hc1] at h
    refine hs_sub (lv' := [(0, .ref x0), (1, .int x1)]) [0, 1] rfl ?_
    exact c_X8_append_b14 hl h
  · rw [if_neg hc1] at h
    refine hs_iload_n dX8_append_4 1 rfl ?_
    refine hs_bipush (v := (127 : Int32)) dX8_append_5 (by decide) ?_
    refine hs_icmp_gt (tgt := 14) dX8_append_7 (by decide) (fun hc2 => ?_) (fun hc2 => ?_)
    · rw [if_pos hc2] at h
      refine hs_sub (lv' := [(0, .ref x0), (1, .int x1)]) [0, 1] rfl ?_
      exact c_X8_append_b14 hl h
    · rw [if_neg hc2] at h
      refine hs_iconst (v := (0 : Int32)) dX8_append_10 (by decide) ?_
      refine hs_goto (tgt := 15) dX8_append_11 (by decide) ?_
      refine hs_sub (lv' := [(0, .ref x0), (1, .int x1)]) [0, 1] rfl ?_
      exact c_X8_append_b15 hl h
def mX8_clearText : hb_Y := (yX8_clearText, cX8_clearText, 2, (some .int), [], false)
set_option maxHeartbeats 4000000 in
set_option maxRecDepth 20000 in
theorem c_X8_clearText {G : hb_G} {l : Launch} {z : Bool} {x0 : Nat} {σ : hb_M} {r : (Int32 × hb_M)} (h : f_X8_clearText x0 σ = some r) : hb_Call G l z 0 0 0 mX8_clearText [.ref x0] σ (.inl (some (.int r.1)), r.2) := by
  refine hb_met (by decide) (Nat.le_of_ble_eq_true rfl) ?_
  unfold f_X8_clearText at h
  refine hs_aload_n dX8_clearText_0 0 rfl ?_
  obtain ⟨r1, h1, h⟩ := hb_bind h
  refine hs_getR dX8_clearText_1 lkX8_35 rfl h1 ?_
  obtain ⟨r2, h2, h⟩ := hb_bind h
  refine hs_getI dX8_clearText_4 lkX8_285 rfl h2 ?_
  refine hs_istore_n (lv' := [(1, .int r2), (0, .ref x0)]) dX8_clearText_7 (by decide) rfl ?_
  refine hs_aload_n dX8_clearText_8 1 rfl ?_
  obtain ⟨r3, h3, h⟩ := hb_bind h
  refine hs_getR dX8_clearText_9 lkX8_35 rfl h3 ?_
  refine hs_iconst (v := (0 : Int32)) dX8_clearText_12 (by decide) ?_
  obtain ⟨r4, h4, h⟩ := hb_bind h
  refine hs_putI dX8_clearText_13 lpX8_clearText_285 rfl h4 ?_
  refine hs_iload_n dX8_clearText_16 0 rfl ?_
  obtain rfl := Option.some.inj h
  exact hs_ireturn dX8_clearText_17 rfl (by rfl) (fun _ => rfl)
def mX8_matches : hb_Y := (yX8_matches, cX8_matches, 3, (some .int), [], false)
set_option maxHeartbeats 4000000 in
set_option maxRecDepth 20000 in
theorem c_X8_matches {G : hb_G} {l : Launch} {z : Bool} {x0 : Nat} {σ : hb_M} {r : (Int32 × hb_M)} (h : f_X8_matches x0 σ = some r) : hb_Call G l z 82 0 0 mX8_matches [.ref x0] σ (.inl (some (.int r.1)), r.2) := by
  refine hb_met (by decide) (Nat.le_of_ble_eq_true rfl) ?_
  unfold f_X8_matches at h
  refine hs_aload_n dX8_matches_0 0 rfl ?_
  obtain ⟨r1, h1, h⟩ := hb_bind h
  refine hs_getR dX8_matches_1 lkX8_44 rfl h1 ?_
  obtain ⟨r2, h2, h⟩ := hb_bind h
  obtain ⟨h2, nf2, hb2⟩ := hb_on_at h2
  refine hs_callVl (μ' := mX3_apply) (mc := 0) (ms := 0) (rc := 0) (rs := 0) (As := []) (rest := []) (ci := 3) dX8_matches_4 lmX8_291 okX3_apply rfl (by decide) rfl (Nat.le_of_ble_eq_true rfl) rfl hb2 (c_X3_apply h2) ?_
  refine hs_lstore_n (lv' := [(1, .long r2.1), (0, .ref x0)]) dX8_matches_7 (by decide) rfl ?_
  refine hs_aload_n dX8_matches_8 1 rfl ?_
  obtain ⟨r3, h3, h⟩ := hb_bind h
  refine hs_getR dX8_matches_9 lkX8_35 rfl h3 ?_
  obtain ⟨r4, h4, h⟩ := hb_bind h
  refine hs_getI dX8_matches_12 lkX8_295 rfl h4 ?_
  refine hs_if_eq (tgt := 31) dX8_matches_15 (by decide) (fun hc5 => ?_) (fun hc5 => ?_)
  · rw [if_pos hc5] at h
    refine hs_lload_n dX8_matches_31 0 rfl ?_
    obtain ⟨r6, h6, h⟩ := hb_bind h
    refine hs_callSi (μ' := mJ13_bitCount_95d88) (mc := 0) (ms := 0) (rc := 0) (rs := 0) (As := [.long r2.1]) (rest := []) dX8_matches_32 lmX8_212 okJ13_bitCount_95d88 rfl (by decide) rfl (Nat.le_of_ble_eq_true rfl) (c_J13_bitCount_95d88 h6) ?_
    obtain rfl := Option.some.inj h
    exact hs_ireturn dX8_matches_35 rfl (by rfl) (fun _ => rfl)
  · rw [if_neg hc5] at h
    refine hs_bipush (v := (-10 : Int32)) dX8_matches_18 (by decide) ?_
    refine hs_aload_n dX8_matches_20 1 rfl ?_
    obtain ⟨r7, h7, h⟩ := hb_bind h
    refine hs_getR dX8_matches_21 lkX8_35 rfl h7 ?_
    obtain ⟨r8, h8, h⟩ := hb_bind h
    refine hs_getI dX8_matches_24 lkX8_299 rfl h8 ?_
    refine hs_isub dX8_matches_27 ?_
    refine hs_goto (tgt := 35) dX8_matches_28 (by decide) ?_
    obtain rfl := Option.some.inj h
    exact hs_ireturn dX8_matches_35 rfl (by rfl) (fun _ => rfl)
def mX8_matchAt : hb_Y := (yX8_matchAt, cX8_matchAt, 4, (some .int), [], false)
set_option maxHeartbeats 4000000 in
set_option maxRecDepth 20000 in
theorem c_X8_matchAt {G : hb_G} {l : Launch} {z : Bool} {x0 : Nat} {x1 : Int32} {σ : hb_M} {r : (Int32 × hb_M)} (h : f_X8_matchAt x0 x1 σ = some r) : hb_Call G l z 82 0 0 mX8_matchAt [.ref x0, .int x1] σ (.inl (some (.int r.1)), r.2) := by
  refine hb_met (by decide) (Nat.le_of_ble_eq_true rfl) ?_
  unfold f_X8_matchAt at h
  refine hs_aload_n dX8_matchAt_0 0 rfl ?_
  obtain ⟨r1, h1, h⟩ := hb_bind h
  refine hs_getR dX8_matchAt_1 lkX8_44 rfl h1 ?_
  obtain ⟨r2, h2, h⟩ := hb_bind h
  obtain ⟨h2, nf2, hb2⟩ := hb_on_at h2
  refine hs_callVl (μ' := mX3_apply) (mc := 0) (ms := 0) (rc := 0) (rs := 0) (As := []) (rest := []) (ci := 3) dX8_matchAt_4 lmX8_291 okX3_apply rfl (by decide) rfl (Nat.le_of_ble_eq_true rfl) rfl hb2 (c_X3_apply h2) ?_
  refine hs_lstore_n (lv' := [(2, .long r2.1), (0, .ref x0), (1, .int x1)]) dX8_matchAt_7 (by decide) rfl ?_
  refine hs_aload_n dX8_matchAt_8 1 rfl ?_
  obtain ⟨r3, h3, h⟩ := hb_bind h
  refine hs_getR dX8_matchAt_9 lkX8_35 rfl h3 ?_
  obtain ⟨r4, h4, h⟩ := hb_bind h
  refine hs_getI dX8_matchAt_12 lkX8_295 rfl h4 ?_
  refine hs_if_eq (tgt := 31) dX8_matchAt_15 (by decide) (fun hc5 => ?_) (fun hc5 => ?_)
  · rw [if_pos hc5] at h
    refine hs_lload_n dX8_matchAt_31 0 rfl ?_
    refine hs_iload_n dX8_matchAt_32 2 rfl ?_
    obtain ⟨r6, h6, h⟩ := hb_bind h
    refine hs_callSi (μ' := mX8_memberAt) (mc := 0) (ms := 0) (rc := 0) (rs := 0) (As := [.long r2.1, .int x1]) (rest := []) dX8_matchAt_33 lmX8_222 okX8_memberAt rfl (by decide) rfl (Nat.le_of_ble_eq_true rfl) (c_X8_memberAt h6) ?_
    obtain rfl := Option.some.inj h
    exact hs_ireturn dX8_matchAt_36 rfl (by rfl) (fun _ => rfl)
  · rw [if_neg hc5] at h
    refine hs_bipush (v := (-10 : Int32)) dX8_matchAt_18 (by decide) ?_
    refine hs_aload_n dX8_matchAt_20 1 rfl ?_
    obtain ⟨r7, h7, h⟩ := hb_bind h
    refine hs_getR dX8_matchAt_21 lkX8_35 rfl h7 ?_
    obtain ⟨r8, h8, h⟩ := hb_bind h
    refine hs_getI dX8_matchAt_24 lkX8_299 rfl h8 ?_
    refine hs_isub dX8_matchAt_27 ?_
    refine hs_goto (tgt := 36) dX8_matchAt_28 (by decide) ?_
    obtain rfl := Option.some.inj h
    exact hs_ireturn dX8_matchAt_36 rfl (by rfl) (fun _ => rfl)
def mX8_matchSize : hb_Y := (yX8_matchSize, cX8_matchSize, 4, (some .int), [], false)
set_option maxHeartbeats 4000000 in
set_option maxRecDepth 20000 in
theorem c_X8_matchSize {G : hb_G} {l : Launch} {z : Bool} {x0 : Nat} {x1 : Int32} {σ : hb_M} {r : (Int32 × hb_M)} (h : f_X8_matchSize x0 x1 σ = some r) : hb_Call G l z 82 0 0 mX8_matchSize [.ref x0, .int x1] σ (.inl (some (.int r.1)), r.2) := by
  refine hb_met (by decide) (Nat.le_of_ble_eq_true rfl) ?_
  unfold f_X8_matchSize at h
  refine hs_aload_n dX8_matchSize_0 0 rfl ?_
  obtain ⟨r1, h1, h⟩ := hb_bind h
  refine hs_getR dX8_matchSize_1 lkX8_44 rfl h1 ?_
  obtain ⟨r2, h2, h⟩ := hb_bind h
  obtain ⟨h2, nf2, hb2⟩ := hb_on_at h2
  refine hs_callVl (μ' := mX3_apply) (mc := 0) (ms := 0) (rc := 0) (rs := 0) (As := []) (rest := []) (ci := 3) dX8_matchSize_4 lmX8_291 okX3_apply rfl (by decide) rfl (Nat.le_of_ble_eq_true rfl) rfl hb2 (c_X3_apply h2) ?_
  refine hs_lstore_n (lv' := [(2, .long r2.1), (0, .ref x0), (1, .int x1)]) dX8_matchSize_7 (by decide) rfl ?_
  refine hs_aload_n dX8_matchSize_8 1 rfl ?_
  obtain ⟨r3, h3, h⟩ := hb_bind h
  refine hs_getR dX8_matchSize_9 lkX8_35 rfl h3 ?_
  obtain ⟨r4, h4, h⟩ := hb_bind h
  refine hs_getI dX8_matchSize_12 lkX8_295 rfl h4 ?_
  refine hs_if_eq (tgt := 29) dX8_matchSize_15 (by decide) (fun hc5 => ?_) (fun hc5 => ?_)
  · rw [if_pos hc5] at h
    refine hs_iload_n dX8_matchSize_29 2 rfl ?_
    refine hs_if_eq (tgt := 44) dX8_matchSize_30 (by decide) (fun hc6 => ?_) (fun hc6 => ?_)
    · rw [if_pos hc6] at h
      refine hs_aload_n dX8_matchSize_44 1 rfl ?_
      obtain ⟨r7, h7, h⟩ := hb_bind h
      refine hs_getR dX8_matchSize_45 lkX8_10 rfl h7 ?_
      refine hs_lload_n dX8_matchSize_48 0 rfl ?_
      obtain ⟨r8, h8, h⟩ := hb_bind h
      obtain ⟨h8, nf8, hb8⟩ := hb_on_at h8
      refine hs_callVi (μ' := mX4_sizeOfAll) (mc := 0) (ms := 0) (rc := 0) (rs := 0) (As := [.long r2.1]) (rest := []) (ci := 4) dX8_matchSize_49 lmX8_255 okX4_sizeOfAll rfl (by decide) rfl (Nat.le_of_ble_eq_true rfl) rfl hb8 (c_X4_sizeOfAll h8) ?_
      obtain rfl := Option.some.inj h
      exact hs_ireturn dX8_matchSize_52 rfl (by rfl) (fun _ => rfl)
    · rw [if_neg hc6] at h
      refine hs_aload_n dX8_matchSize_33 1 rfl ?_
      obtain ⟨r9, h9, h⟩ := hb_bind h
      refine hs_getR dX8_matchSize_34 lkX8_21 rfl h9 ?_
      refine hs_lload_n dX8_matchSize_37 0 rfl ?_
      obtain ⟨r10, h10, h⟩ := hb_bind h
      obtain ⟨h10, nf10, hb10⟩ := hb_on_at h10
      refine hs_callVi (μ' := mX0_lostWithout) (mc := 0) (ms := 0) (rc := 0) (rs := 0) (As := [.long r2.1]) (rest := []) (ci := 0) dX8_matchSize_38 lmX8_258 okX0_lostWithout rfl (by decide) rfl (Nat.le_of_ble_eq_true rfl) rfl hb10 (c_X0_lostWithout h10) ?_
      refine hs_goto (tgt := 52) dX8_matchSize_41 (by decide) ?_
      obtain rfl := Option.some.inj h
      exact hs_ireturn dX8_matchSize_52 rfl (by rfl) (fun _ => rfl)
  · rw [if_neg hc5] at h
    refine hs_bipush (v := (-10 : Int32)) dX8_matchSize_18 (by decide) ?_
    refine hs_aload_n dX8_matchSize_20 1 rfl ?_
    obtain ⟨r11, h11, h⟩ := hb_bind h
    refine hs_getR dX8_matchSize_21 lkX8_35 rfl h11 ?_
    obtain ⟨r12, h12, h⟩ := hb_bind h
    refine hs_getI dX8_matchSize_24 lkX8_299 rfl h12 ?_
    refine hs_isub dX8_matchSize_27 ?_
    obtain rfl := Option.some.inj h
    exact hs_ireturn dX8_matchSize_28 rfl (by rfl) (fun _ => rfl)
def mX8_execute : hb_Y := (yX8_execute, cX8_execute, 2, (some .int), [], false)
set_option maxHeartbeats 4000000 in
set_option maxRecDepth 20000 in
theorem c_X8_execute {G : hb_G} {l : Launch} {z : Bool} {x0 : Nat} {σ : hb_M} {r : (Int32 × hb_M)} (h : f_X8_execute x0 σ = some r) : hb_Call G l z 7 0 0 mX8_execute [.ref x0] σ (.inl (some (.int r.1)), r.2) := by
  refine hb_met (by decide) (Nat.le_of_ble_eq_true rfl) ?_
  unfold f_X8_execute at h
  refine hs_aload_n dX8_execute_0 0 rfl ?_
  obtain ⟨r1, h1, h⟩ := hb_bind h
  refine hs_getR dX8_execute_1 lkX8_51 rfl h1 ?_
  obtain ⟨r2, h2, h⟩ := hb_bind h
  obtain ⟨h2, nf2, hb2⟩ := hb_on_at h2
  refine hs_callVv (μ' := mX1_read) (mc := 0) (ms := 0) (rc := 0) (rs := 0) (As := []) (rest := []) (ci := 1) dX8_execute_4 lmX8_302 okX1_read rfl (by decide) rfl (Nat.le_of_ble_eq_true rfl) rfl hb2 (c_X1_read h2) ?_
  refine hs_aload_n dX8_execute_7 0 rfl ?_
  obtain ⟨r3, h3, h⟩ := hb_bind h
  refine hs_getR dX8_execute_8 lkX8_35 rfl h3 ?_
  obtain ⟨r4, h4, h⟩ := hb_bind h
  refine hs_getI dX8_execute_11 lkX8_295 rfl h4 ?_
  refine hs_if_eq (tgt := 28) dX8_execute_14 (by decide) (fun hc5 => ?_) (fun hc5 => ?_)
  · rw [if_pos hc5] at h
    refine hs_aload_n dX8_execute_28 0 rfl ?_
    obtain ⟨r6, h6, h⟩ := hb_bind h
    refine hs_getR dX8_execute_29 lkX8_28 rfl h6 ?_
    refine hs_aload_n dX8_execute_32 0 rfl ?_
    obtain ⟨r7, h7, h⟩ := hb_bind h
    refine hs_getR dX8_execute_33 lkX8_10 rfl h7 ?_
    obtain ⟨r8, h8, h⟩ := hb_bind h
    obtain ⟨h8, nf8, hb8⟩ := hb_on_at h8
    refine hs_callVv (μ' := mX5_note) (mc := 0) (ms := 0) (rc := 0) (rs := 0) (As := [.ref r7]) (rest := []) (ci := 5) dX8_execute_36 lmX8_305 okX5_note rfl (by decide) rfl (Nat.le_of_ble_eq_true rfl) rfl hb8 (c_X5_note h8) ?_
    refine hs_aload_n dX8_execute_39 0 rfl ?_
    obtain ⟨r9, h9, h⟩ := hb_bind h
    refine hs_getR dX8_execute_40 lkX8_51 rfl h9 ?_
    obtain ⟨r10, h10, h⟩ := hb_bind h
    obtain ⟨h10, nf10, hb10⟩ := hb_on_at h10
    refine hs_callVi (μ' := mX1_run) (mc := 0) (ms := 0) (rc := 0) (rs := 0) (As := []) (rest := []) (ci := 1) dX8_execute_43 lmX8_308 okX1_run rfl (by decide) rfl (Nat.le_of_ble_eq_true rfl) rfl hb10 (c_X1_run h10) ?_
    refine hs_istore_n (lv' := [(1, .int r10.1), (0, .ref x0)]) dX8_execute_46 (by decide) rfl ?_
    refine hs_iload_n dX8_execute_47 0 rfl ?_
    refine hs_iconst (v := (-1 : Int32)) dX8_execute_48 (by decide) ?_
    refine hs_icmp_eq (tgt := 72) dX8_execute_49 (by decide) (fun hc11 => ?_) (fun hc11 => ?_)
    · rw [if_pos hc11] at h
      refine hs_aload_n dX8_execute_72 1 rfl ?_
      obtain ⟨r12, h12, h⟩ := hb_bind h
      refine hs_getR dX8_execute_73 lkX8_28 rfl h12 ?_
      obtain ⟨r13, h13, h⟩ := hb_bind h
      obtain ⟨h13, nf13, hb13⟩ := hb_on_at h13
      refine hs_callVv (μ' := mX5_keepNoted) (mc := 0) (ms := 0) (rc := 0) (rs := 0) (As := []) (rest := []) (ci := 5) dX8_execute_76 lmX8_318 okX5_keepNoted rfl (by decide) rfl (Nat.le_of_ble_eq_true rfl) rfl hb13 (c_X5_keepNoted h13) ?_
      refine hs_aload_n dX8_execute_79 1 rfl ?_
      obtain ⟨r14, h14, h⟩ := hb_bind h
      refine hs_getR dX8_execute_80 lkX8_51 rfl h14 ?_
      obtain ⟨r15, h15, h⟩ := hb_bind h
      refine hs_getI dX8_execute_83 lkX8_321 rfl h15 ?_
      obtain rfl := Option.some.inj h
      exact hs_ireturn dX8_execute_86 rfl (by rfl) (fun _ => rfl)
    · rw [if_neg hc11] at h
      refine hs_aload_n dX8_execute_52 1 rfl ?_
      obtain ⟨r16, h16, h⟩ := hb_bind h
      refine hs_getR dX8_execute_53 lkX8_10 rfl h16 ?_
      refine hs_aload_n dX8_execute_56 1 rfl ?_
      obtain ⟨r17, h17, h⟩ := hb_bind h
      refine hs_getR dX8_execute_57 lkX8_28 rfl h17 ?_
      obtain ⟨r18, h18, h⟩ := hb_bind h
      obtain ⟨h18, nf18, hb18⟩ := hb_on_at h18
      refine hs_callVa (μ' := mX5_noted) (mc := 0) (ms := 0) (rc := 0) (rs := 0) (As := []) (rest := [.ref r16]) (ci := 5) dX8_execute_60 lmX8_311 okX5_noted rfl (by decide) rfl (Nat.le_of_ble_eq_true rfl) rfl hb18 (c_X5_noted h18) ?_
      obtain ⟨r19, h19, h⟩ := hb_bind h
      obtain ⟨h19, nf19, hb19⟩ := hb_on_at h19
      refine hs_callVv (μ' := mX4_copyFrom) (mc := 0) (ms := 0) (rc := 0) (rs := 0) (As := [.ref r18.1]) (rest := []) (ci := 4) dX8_execute_63 lmX8_315 okX4_copyFrom rfl (by decide) rfl (Nat.le_of_ble_eq_true rfl) rfl hb19 (c_X4_copyFrom h19) ?_
      refine hs_sipush (v := (-1000 : Int32)) dX8_execute_66 (by decide) ?_
      refine hs_iload_n dX8_execute_69 0 rfl ?_
      refine hs_isub dX8_execute_70 ?_
      obtain rfl := Option.some.inj h
      exact hs_ireturn dX8_execute_71 rfl (by rfl) (fun _ => rfl)
  · rw [if_neg hc5] at h
    refine hs_bipush (v := (-10 : Int32)) dX8_execute_17 (by decide) ?_
    refine hs_aload_n dX8_execute_19 0 rfl ?_
    obtain ⟨r20, h20, h⟩ := hb_bind h
    refine hs_getR dX8_execute_20 lkX8_35 rfl h20 ?_
    obtain ⟨r21, h21, h⟩ := hb_bind h
    refine hs_getI dX8_execute_23 lkX8_299 rfl h21 ?_
    refine hs_isub dX8_execute_26 ?_
    obtain rfl := Option.some.inj h
    exact hs_ireturn dX8_execute_27 rfl (by rfl) (fun _ => rfl)
def mX8_isPicture : hb_Y := (yX8_isPicture, cX8_isPicture, 1, (some .boolean), [], false)
theorem okX8_isPicture : hb_okS mX8_isPicture 1 := ⟨⟨hb_w 1 (by decide +kernel) (by decide +kernel), hb_w 1265 (by decide +kernel) (by decide +kernel), ⟨by decide +kernel, by decide +kernel, by decide +kernel⟩, by decide⟩, hb_w 1264 (by decide +kernel) (by decide +kernel)⟩
set_option maxHeartbeats 4000000 in
set_option maxRecDepth 20000 in
theorem c_X8_isPicture {G : hb_G} {l : Launch} {z : Bool} {x0 : Int32} {σ : hb_M} {r : (Int32 × hb_M)} (h : f_X8_isPicture x0 σ = some r) : hb_Call G l z 0 0 0 mX8_isPicture [.int x0] σ (.inl (some (.int r.1)), r.2) := by
  refine hb_met (by decide) (Nat.le_of_ble_eq_true rfl) ?_
  unfold f_X8_isPicture at h
  refine hs_iload_n dX8_isPicture_0 0 rfl ?_
  refine hs_if_lt (tgt := 13) dX8_isPicture_1 (by decide) (fun hc1 => ?_) (fun hc1 => ?_)
  · rw [if_pos hc1] at h
    refine hs_iconst (v := (0 : Int32)) dX8_isPicture_13 (by decide) ?_
    obtain rfl := Option.some.inj h
    exact hs_ireturn dX8_isPicture_14 rfl (by decide) (fun _ => rfl)
  · rw [if_neg hc1] at h
    refine hs_iload_n dX8_isPicture_4 0 rfl ?_
    refine hs_iconst (v := (2 : Int32)) dX8_isPicture_5 (by decide) ?_
    refine hs_icmp_ge (tgt := 13) dX8_isPicture_6 (by decide) (fun hc2 => ?_) (fun hc2 => ?_)
    · rw [if_pos hc2] at h
      refine hs_iconst (v := (0 : Int32)) dX8_isPicture_13 (by decide) ?_
      obtain rfl := Option.some.inj h
      exact hs_ireturn dX8_isPicture_14 rfl (by decide) (fun _ => rfl)
    · rw [if_neg hc2] at h
      refine hs_iconst (v := (1 : Int32)) dX8_isPicture_9 (by decide) ?_
      refine hs_goto (tgt := 14) dX8_isPicture_10 (by decide) ?_
      obtain rfl := Option.some.inj h
      exact hs_ireturn dX8_isPicture_14 rfl (by decide) (fun _ => rfl)
def mX8_take : hb_Y := (yX8_take, cX8_take, 2, (some .int), [], false)
set_option maxHeartbeats 4000000 in
set_option maxRecDepth 20000 in
theorem c_X8_take {G : hb_G} {l : Launch} (hl : l.stackTraces = false) {x0 : Nat} {x1 : Int32} {σ : hb_M} {r : ((String ⊕ Int32) × hb_M)} (h : f_X8_take x0 x1 σ = some r) : hb_Call G l true 3 1 6 mX8_take [.ref x0, .int x1] σ (hb_xi r) := by
  refine hb_met (by decide) (Nat.le_of_ble_eq_true rfl) ?_
  unfold f_X8_take at h
  refine hs_iload_n dX8_take_0 1 rfl ?_
  obtain ⟨r1, h1, h⟩ := hb_bind h
  refine hs_callSi (μ' := mX8_isPicture) (mc := 0) (ms := 0) (rc := 1) (rs := 6) (As := [.int x1]) (rest := []) dX8_take_1 lmX8_324 okX8_isPicture rfl (by decide) rfl (Nat.le_of_ble_eq_true rfl) (c_X8_isPicture h1) ?_
  rcases hb_xb_at h with ⟨E2, r2, h2, hr2⟩ | ⟨v2, r2, h2, h⟩
  · subst hr2
    exact hs_callSx (μ' := mX8_refuseUnless) (mc := 1) (ms := 6) (rc := 0) (rs := 0) (As := [.int r1.1]) (rest := []) dX8_take_4 lmX8_100 okX8_refuseUnless rfl (by decide) rfl (Nat.le_of_ble_eq_true rfl) (c_X8_refuseUnless hl h2) rfl
  refine hs_callSv (μ' := mX8_refuseUnless) (mc := 1) (ms := 6) (rc := 0) (rs := 0) (As := [.int r1.1]) (rest := []) dX8_take_4 lmX8_100 okX8_refuseUnless rfl (by decide) rfl (Nat.le_of_ble_eq_true rfl) (c_X8_refuseUnless hl h2) ?_
  refine hs_aload_n dX8_take_7 0 rfl ?_
  obtain ⟨r3, h3, h⟩ := hb_bind h
  refine hs_getR dX8_take_8 lkX8_62 rfl h3 ?_
  refine hs_iload_n dX8_take_11 1 rfl ?_
  obtain ⟨r4, h4, h⟩ := hb_bind h
  refine hs_aald dX8_take_12 h4 ?_
  refine hs_aload_n dX8_take_13 0 rfl ?_
  obtain ⟨r5, h5, h⟩ := hb_bind h
  refine hs_getR dX8_take_14 lkX8_10 rfl h5 ?_
  obtain ⟨r6, h6, h⟩ := hb_bind h
  obtain ⟨h6, nf6, hb6⟩ := hb_on_at h6
  refine hs_callVv (μ' := mX4_copyFrom) (mc := 0) (ms := 0) (rc := 0) (rs := 0) (As := [.ref r5]) (rest := []) (ci := 4) dX8_take_17 lmX8_315 okX4_copyFrom rfl (by decide) rfl (Nat.le_of_ble_eq_true rfl) rfl hb6 (c_X4_copyFrom h6) ?_
  refine hs_aload_n dX8_take_20 0 rfl ?_
  obtain ⟨r7, h7, h⟩ := hb_bind h
  refine hs_getR dX8_take_21 lkX8_66 rfl h7 ?_
  refine hs_iload_n dX8_take_24 1 rfl ?_
  refine hs_iconst (v := (1 : Int32)) dX8_take_25 (by decide) ?_
  obtain ⟨r8, h8, h⟩ := hb_bind h
  refine hs_zast dX8_take_26 h8 ?_
  refine hs_aload_n dX8_take_27 0 rfl ?_
  obtain ⟨r9, h9, h⟩ := hb_bind h
  refine hs_getR dX8_take_28 lkX8_10 rfl h9 ?_
  obtain ⟨r10, h10, h⟩ := hb_bind h
  obtain ⟨h10, nf10, hb10⟩ := hb_on_at h10
  refine hs_callVi (μ' := mX4_objectCount) (mc := 0) (ms := 0) (rc := 0) (rs := 0) (As := []) (rest := []) (ci := 4) dX8_take_31 lmX8_168 okX4_objectCount rfl (by decide) rfl (Nat.le_of_ble_eq_true rfl) rfl hb10 (c_X4_objectCount h10) ?_
  obtain rfl := Option.some.inj h
  exact hs_ireturn dX8_take_34 rfl (by rfl) (fun _ => rfl)
def mX8_compare : hb_Y := (yX8_compare, cX8_compare, 4, (some .int), [], false)
set_option maxHeartbeats 4000000 in
set_option maxRecDepth 20000 in
theorem c_X8_compare_b26 {G : hb_G} {l : Launch} (hl : l.stackTraces = false)  {x0 : Nat} {x1 : Int32} {x2 : Int32} {s0 : Int32} {σ : hb_M} {r : ((String ⊕ Int32) × hb_M)} (h : f_X8_compare_b26 x0 x1 x2 s0 σ = some r) : hb_T G l true mX8_compare 6 1 6 26 [(0, .ref x0), (1, .int x1), (2, .int x2)] [.int s0] σ (hb_xi r) := by
  unfold f_X8_compare_b26 at h
  rcases hb_xb_at h with ⟨E1, r1, h1, hr1⟩ | ⟨v1, r1, h1, h⟩
  · subst hr1
    exact hs_callSx (μ' := mX8_refuse) (mc := 1) (ms := 6) (rc := 0) (rs := 0) (As := [.int s0]) (rest := []) dX8_compare_26 lmX8_74 okX8_refuse rfl (by decide) rfl (Nat.le_of_ble_eq_true rfl) (c_X8_refuse hl h1) rfl
  refine hs_callSv (μ' := mX8_refuse) (mc := 1) (ms := 6) (rc := 0) (rs := 0) (As := [.int s0]) (rest := []) dX8_compare_26 lmX8_74 okX8_refuse rfl (by decide) rfl (Nat.le_of_ble_eq_true rfl) (c_X8_refuse hl h1) ?_
  refine hs_aload_n dX8_compare_29 0 rfl ?_
  obtain ⟨r2, h2, h⟩ := hb_bind h
  refine hs_getR dX8_compare_30 lkX8_62 rfl h2 ?_
  refine hs_iload_n dX8_compare_33 1 rfl ?_
  obtain ⟨r3, h3, h⟩ := hb_bind h
  refine hs_aald dX8_compare_34 h3 ?_
  refine hs_astore_n (lv' := [(3, .ref r3), (0, .ref x0), (1, .int x1), (2, .int x2)]) dX8_compare_35 (by decide) rfl ?_
  refine hs_iload_n dX8_compare_36 3 rfl ?_
  by_cases hc4 : x2 = (0 : Int32)
  · rw [if_pos hc4] at h
    refine hs_tblC (tgt := 64) (off := 27) (0 : Int32) dX8_compare_37 hc4 (by decide) (by decide) (by decide) (by decide) ?_
    refine hs_aload_n dX8_compare_64 1 rfl ?_
    obtain ⟨r5, h5, h⟩ := hb_bind h
    refine hs_getR dX8_compare_65 lkX8_10 rfl h5 ?_
    refine hs_aload_n dX8_compare_68 0 rfl ?_
    obtain ⟨r6, h6, h⟩ := hb_bind h
    obtain ⟨h6, nf6, hb6⟩ := hb_on_at h6
    refine hs_callVi (μ' := mX4_countNotIn) (mc := 0) (ms := 0) (rc := 0) (rs := 0) (As := [.ref r3]) (rest := []) (ci := 4) dX8_compare_69 lmX8_327 okX4_countNotIn rfl (by decide) rfl (Nat.le_of_ble_eq_true rfl) rfl hb6 (c_X4_countNotIn h6) ?_
    obtain rfl := Option.some.inj h
    exact hs_ireturn dX8_compare_72 rfl (by rfl) (fun _ => rfl)
  rw [if_neg hc4] at h
  by_cases hc7 : x2 = (1 : Int32)
  · rw [if_pos hc7] at h
    refine hs_tblC (tgt := 73) (off := 36) (1 : Int32) dX8_compare_37 hc7 (by decide) (by decide) (by decide) (by decide) ?_
    refine hs_aload_n dX8_compare_73 0 rfl ?_
    refine hs_aload_n dX8_compare_74 1 rfl ?_
    obtain ⟨r8, h8, h⟩ := hb_bind h
    refine hs_getR dX8_compare_75 lkX8_10 rfl h8 ?_
    obtain ⟨r9, h9, h⟩ := hb_bind h
    obtain ⟨h9, nf9, hb9⟩ := hb_on_at h9
    refine hs_callVi (μ' := mX4_countNotIn) (mc := 0) (ms := 0) (rc := 0) (rs := 0) (As := [.ref r8]) (rest := []) (ci := 4) dX8_compare_78 lmX8_327 okX4_countNotIn rfl (by decide) rfl (Nat.le_of_ble_eq_true rfl) rfl hb9 (c_X4_countNotIn h9) ?_
    obtain rfl := Option.some.inj h
    exact hs_ireturn dX8_compare_81 rfl (by rfl) (fun _ => rfl)
  rw [if_neg hc7] at h
  by_cases hc10 : x2 = (2 : Int32)
  · rw [if_pos hc10] at h
    refine hs_tblC (tgt := 82) (off := 45) (2 : Int32) dX8_compare_37 hc10 (by decide) (by decide) (by decide) (by decide) ?_
    refine hs_aload_n dX8_compare_82 1 rfl ?_
    obtain ⟨r11, h11, h⟩ := hb_bind h
    refine hs_getR dX8_compare_83 lkX8_10 rfl h11 ?_
    refine hs_aload_n dX8_compare_86 0 rfl ?_
    obtain ⟨r12, h12, h⟩ := hb_bind h
    obtain ⟨h12, nf12, hb12⟩ := hb_on_at h12
    refine hs_callVi (μ' := mX4_countChangedSince) (mc := 0) (ms := 0) (rc := 0) (rs := 0) (As := [.ref r3]) (rest := []) (ci := 4) dX8_compare_87 lmX8_331 okX4_countChangedSince rfl (by decide) rfl (Nat.le_of_ble_eq_true rfl) rfl hb12 (c_X4_countChangedSince h12) ?_
    obtain rfl := Option.some.inj h
    exact hs_ireturn dX8_compare_90 rfl (by rfl) (fun _ => rfl)
  rw [if_neg hc10] at h
  refine hs_tblD (tgt := 91) [(0 : Int32), (1 : Int32), (2 : Int32)] dX8_compare_37 (by simp only [List.mem_cons, List.not_mem_nil, or_false, forall_eq_or_imp, forall_eq]; exact ⟨hc4, hc7, hc10⟩) (by decide) (by decide) (by decide) ?_
  refine hs_aload_n dX8_compare_91 1 rfl ?_
  obtain ⟨r13, h13, h⟩ := hb_bind h
  refine hs_getR dX8_compare_92 lkX8_10 rfl h13 ?_
  refine hs_aload_n dX8_compare_95 1 rfl ?_
  obtain ⟨r14, h14, h⟩ := hb_bind h
  refine hs_getR dX8_compare_96 lkX8_10 rfl h14 ?_
  obtain ⟨r15, h15, h⟩ := hb_bind h
  obtain ⟨h15, nf15, hb15⟩ := hb_on_at h15
  refine hs_callVl (μ' := mX4_allObjects) (mc := 0) (ms := 0) (rc := 0) (rs := 0) (As := []) (rest := [.ref r13]) (ci := 4) dX8_compare_99 lmX8_334 okX4_allObjects rfl (by decide) rfl (Nat.le_of_ble_eq_true rfl) rfl hb15 (c_X4_allObjects h15) ?_
  obtain ⟨r16, h16, h⟩ := hb_bind h
  obtain ⟨h16, nf16, hb16⟩ := hb_on_at h16
  refine hs_callVi (μ' := mX4_sizeOfAll) (mc := 0) (ms := 0) (rc := 0) (rs := 0) (As := [.long r15.1]) (rest := []) (ci := 4) dX8_compare_102 lmX8_255 okX4_sizeOfAll rfl (by decide) rfl (Nat.le_of_ble_eq_true rfl) rfl hb16 (c_X4_sizeOfAll h16) ?_
  refine hs_aload_n dX8_compare_105 0 rfl ?_
  refine hs_aload_n dX8_compare_106 0 rfl ?_
  obtain ⟨r17, h17, h⟩ := hb_bind h
  obtain ⟨h17, nf17, hb17⟩ := hb_on_at h17
  refine hs_callVl (μ' := mX4_allObjects) (mc := 0) (ms := 0) (rc := 0) (rs := 0) (As := []) (rest := [.ref r3, .int r16.1]) (ci := 4) dX8_compare_107 lmX8_334 okX4_allObjects rfl (by decide) rfl (Nat.le_of_ble_eq_true rfl) rfl hb17 (c_X4_allObjects h17) ?_
  obtain ⟨r18, h18, h⟩ := hb_bind h
  obtain ⟨h18, nf18, hb18⟩ := hb_on_at h18
  refine hs_callVi (μ' := mX4_sizeOfAll) (mc := 0) (ms := 0) (rc := 0) (rs := 0) (As := [.long r17.1]) (rest := [.int r16.1]) (ci := 4) dX8_compare_110 lmX8_255 okX4_sizeOfAll rfl (by decide) rfl (Nat.le_of_ble_eq_true rfl) rfl hb18 (c_X4_sizeOfAll h18) ?_
  refine hs_isub dX8_compare_113 ?_
  obtain rfl := Option.some.inj h
  exact hs_ireturn dX8_compare_114 rfl (by rfl) (fun _ => rfl)
set_option maxHeartbeats 4000000 in
set_option maxRecDepth 20000 in
theorem c_X8_compare {G : hb_G} {l : Launch} (hl : l.stackTraces = false) {x0 : Nat} {x1 : Int32} {x2 : Int32} {σ : hb_M} {r : ((String ⊕ Int32) × hb_M)} (h : f_X8_compare x0 x1 x2 σ = some r) : hb_Call G l true 6 2 12 mX8_compare [.ref x0, .int x1, .int x2] σ (hb_xi r) := by
  refine hb_met (by decide) (Nat.le_of_ble_eq_true rfl) ?_
  unfold f_X8_compare at h
  refine hs_iload_n dX8_compare_0 1 rfl ?_
  obtain ⟨r1, h1, h⟩ := hb_bind h
  refine hs_callSi (μ' := mX8_isPicture) (mc := 0) (ms := 0) (rc := 2) (rs := 12) (As := [.int x1]) (rest := []) dX8_compare_1 lmX8_324 okX8_isPicture rfl (by decide) rfl (Nat.le_of_ble_eq_true rfl) (c_X8_isPicture h1) ?_
  refine hs_iload_n dX8_compare_4 2 rfl ?_
  refine hs_iconst (v := (3 : Int32)) dX8_compare_5 (by decide) ?_
  obtain ⟨r2, h2, h⟩ := hb_bind h
  refine hs_callSi (μ' := mX8_problemOf) (mc := 0) (ms := 0) (rc := 2) (rs := 12) (As := [.int r1.1, .int x2, .int (3 : Int32)]) (rest := []) dX8_compare_6 lmX8_92 okX8_problemOf rfl (by decide) rfl (Nat.le_of_ble_eq_true rfl) (c_X8_problemOf h2) ?_
  rcases hb_xb_at h with ⟨E3, r3, h3, hr3⟩ | ⟨v3, r3, h3, h⟩
  · subst hr3
    exact hs_callSx (μ' := mX8_refuse) (mc := 1) (ms := 6) (rc := 1) (rs := 6) (As := [.int r2.1]) (rest := []) dX8_compare_9 lmX8_74 okX8_refuse rfl (by decide) rfl (Nat.le_of_ble_eq_true rfl) (c_X8_refuse hl h3) rfl
  refine hs_callSv (μ' := mX8_refuse) (mc := 1) (ms := 6) (rc := 1) (rs := 6) (As := [.int r2.1]) (rest := []) dX8_compare_9 lmX8_74 okX8_refuse rfl (by decide) rfl (Nat.le_of_ble_eq_true rfl) (c_X8_refuse hl h3) ?_
  refine hs_aload_n dX8_compare_12 0 rfl ?_
  obtain ⟨r4, h4, h⟩ := hb_bind h
  refine hs_getR dX8_compare_13 lkX8_66 rfl h4 ?_
  refine hs_iload_n dX8_compare_16 1 rfl ?_
  obtain ⟨r5, h5, h⟩ := hb_bind h
  refine hs_zald dX8_compare_17 h5 ?_
  refine hs_if_eq (tgt := 25) dX8_compare_18 (by decide) (fun hc6 => ?_) (fun hc6 => ?_)
  · rw [if_pos hc6] at h
    refine hs_iconst (v := (3 : Int32)) dX8_compare_25 (by decide) ?_
    refine hs_sub (lv' := [(0, .ref x0), (1, .int x1), (2, .int x2)]) [0, 1, 2] rfl ?_
    exact c_X8_compare_b26 hl h
  · rw [if_neg hc6] at h
    refine hs_iconst (v := (0 : Int32)) dX8_compare_21 (by decide) ?_
    refine hs_goto (tgt := 26) dX8_compare_22 (by decide) ?_
    refine hs_sub (lv' := [(0, .ref x0), (1, .int x1), (2, .int x2)]) [0, 1, 2] rfl ?_
    exact c_X8_compare_b26 hl h
def mX8_growth : hb_Y := (yX8_growth, cX8_growth, 3, (some .int), [], false)
set_option maxHeartbeats 4000000 in
set_option maxRecDepth 20000 in
theorem c_X8_growth_b39 {G : hb_G} {l : Launch} (hl : l.stackTraces = false)  {x0 : Nat} {x1 : Int32} {x2 : Int32} {s0 : Int32} {σ : hb_M} {r : ((String ⊕ Int32) × hb_M)} (h : f_X8_growth_b39 x0 x1 x2 s0 σ = some r) : hb_T G l true mX8_growth 2 1 6 39 [(0, .ref x0), (1, .int x1), (2, .int x2)] [.int s0] σ (hb_xi r) := by
  unfold f_X8_growth_b39 at h
  rcases hb_xb_at h with ⟨E1, r1, h1, hr1⟩ | ⟨v1, r1, h1, h⟩
  · subst hr1
    exact hs_callSx (μ' := mX8_refuse) (mc := 1) (ms := 6) (rc := 0) (rs := 0) (As := [.int s0]) (rest := []) dX8_growth_39 lmX8_74 okX8_refuse rfl (by decide) rfl (Nat.le_of_ble_eq_true rfl) (c_X8_refuse hl h1) rfl
  refine hs_callSv (μ' := mX8_refuse) (mc := 1) (ms := 6) (rc := 0) (rs := 0) (As := [.int s0]) (rest := []) dX8_growth_39 lmX8_74 okX8_refuse rfl (by decide) rfl (Nat.le_of_ble_eq_true rfl) (c_X8_refuse hl h1) ?_
  refine hs_aload_n dX8_growth_42 0 rfl ?_
  obtain ⟨r2, h2, h⟩ := hb_bind h
  refine hs_getR dX8_growth_43 lkX8_10 rfl h2 ?_
  refine hs_iload_n dX8_growth_46 2 rfl ?_
  refine hs_iconst (v := (0 : Int32)) dX8_growth_47 (by decide) ?_
  obtain ⟨r3, h3, h⟩ := hb_bind h
  obtain ⟨h3, nf3, hb3⟩ := hb_on_at h3
  refine hs_callVl (μ' := mX4_membersOf) (mc := 0) (ms := 0) (rc := 0) (rs := 0) (As := [.int x2, .int (0 : Int32)]) (rest := []) (ci := 4) dX8_growth_48 lmX8_247 okX4_membersOf rfl (by decide) rfl (Nat.le_of_ble_eq_true rfl) rfl hb3 (c_X4_membersOf h3) ?_
  obtain ⟨r4, h4, h⟩ := hb_bind h
  refine hs_callSi (μ' := mJ13_bitCount_95d88) (mc := 0) (ms := 0) (rc := 0) (rs := 0) (As := [.long r3.1]) (rest := []) dX8_growth_51 lmX8_212 okJ13_bitCount_95d88 rfl (by decide) rfl (Nat.le_of_ble_eq_true rfl) (c_J13_bitCount_95d88 h4) ?_
  refine hs_aload_n dX8_growth_54 0 rfl ?_
  obtain ⟨r5, h5, h⟩ := hb_bind h
  refine hs_getR dX8_growth_55 lkX8_62 rfl h5 ?_
  refine hs_iload_n dX8_growth_58 1 rfl ?_
  obtain ⟨r6, h6, h⟩ := hb_bind h
  refine hs_aald dX8_growth_59 h6 ?_
  refine hs_iload_n dX8_growth_60 2 rfl ?_
  refine hs_iconst (v := (0 : Int32)) dX8_growth_61 (by decide) ?_
  obtain ⟨r7, h7, h⟩ := hb_bind h
  obtain ⟨h7, nf7, hb7⟩ := hb_on_at h7
  refine hs_callVl (μ' := mX4_membersOf) (mc := 0) (ms := 0) (rc := 0) (rs := 0) (As := [.int x2, .int (0 : Int32)]) (rest := [.int r4.1]) (ci := 4) dX8_growth_62 lmX8_247 okX4_membersOf rfl (by decide) rfl (Nat.le_of_ble_eq_true rfl) rfl hb7 (c_X4_membersOf h7) ?_
  obtain ⟨r8, h8, h⟩ := hb_bind h
  refine hs_callSi (μ' := mJ13_bitCount_95d88) (mc := 0) (ms := 0) (rc := 0) (rs := 0) (As := [.long r7.1]) (rest := [.int r4.1]) dX8_growth_65 lmX8_212 okJ13_bitCount_95d88 rfl (by decide) rfl (Nat.le_of_ble_eq_true rfl) (c_J13_bitCount_95d88 h8) ?_
  refine hs_isub dX8_growth_68 ?_
  obtain rfl := Option.some.inj h
  exact hs_ireturn dX8_growth_69 rfl (by rfl) (fun _ => rfl)
set_option maxHeartbeats 4000000 in
set_option maxRecDepth 20000 in
theorem c_X8_growth_b22 {G : hb_G} {l : Launch} (hl : l.stackTraces = false)  {x0 : Nat} {x1 : Int32} {x2 : Int32} {s0 : Int32} {σ : hb_M} {r : ((String ⊕ Int32) × hb_M)} (h : f_X8_growth_b22 x0 x1 x2 s0 σ = some r) : hb_T G l true mX8_growth 2 2 12 22 [(0, .ref x0), (1, .int x1), (2, .int x2)] [.int s0] σ (hb_xi r) := by
  unfold f_X8_growth_b22 at h
  rcases hb_xb_at h with ⟨E1, r1, h1, hr1⟩ | ⟨v1, r1, h1, h⟩
  · subst hr1
    exact hs_callSx (μ' := mX8_refuseUnless) (mc := 1) (ms := 6) (rc := 1) (rs := 6) (As := [.int s0]) (rest := []) dX8_growth_22 lmX8_100 okX8_refuseUnless rfl (by decide) rfl (Nat.le_of_ble_eq_true rfl) (c_X8_refuseUnless hl h1) rfl
  refine hs_callSv (μ' := mX8_refuseUnless) (mc := 1) (ms := 6) (rc := 1) (rs := 6) (As := [.int s0]) (rest := []) dX8_growth_22 lmX8_100 okX8_refuseUnless rfl (by decide) rfl (Nat.le_of_ble_eq_true rfl) (c_X8_refuseUnless hl h1) ?_
  refine hs_aload_n dX8_growth_25 0 rfl ?_
  obtain ⟨r2, h2, h⟩ := hb_bind h
  refine hs_getR dX8_growth_26 lkX8_66 rfl h2 ?_
  refine hs_iload_n dX8_growth_29 1 rfl ?_
  obtain ⟨r3, h3, h⟩ := hb_bind h
  refine hs_zald dX8_growth_30 h3 ?_
  refine hs_if_eq (tgt := 38) dX8_growth_31 (by decide) (fun hc4 => ?_) (fun hc4 => ?_)
  · rw [if_pos hc4] at h
    refine hs_iconst (v := (3 : Int32)) dX8_growth_38 (by decide) ?_
    refine hs_sub (lv' := [(0, .ref x0), (1, .int x1), (2, .int x2)]) [0, 1, 2] rfl ?_
    exact c_X8_growth_b39 hl h
  · rw [if_neg hc4] at h
    refine hs_iconst (v := (0 : Int32)) dX8_growth_34 (by decide) ?_
    refine hs_goto (tgt := 39) dX8_growth_35 (by decide) ?_
    refine hs_sub (lv' := [(0, .ref x0), (1, .int x1), (2, .int x2)]) [0, 1, 2] rfl ?_
    exact c_X8_growth_b39 hl h
set_option maxHeartbeats 4000000 in
set_option maxRecDepth 20000 in
theorem c_X8_growth_b21 {G : hb_G} {l : Launch} (hl : l.stackTraces = false)  {x0 : Nat} {x1 : Int32} {x2 : Int32} {σ : hb_M} {r : ((String ⊕ Int32) × hb_M)} (h : f_X8_growth_b21 x0 x1 x2 σ = some r) : hb_T G l true mX8_growth 2 2 12 21 [(0, .ref x0), (1, .int x1), (2, .int x2)] [] σ (hb_xi r) := by
  unfold f_X8_growth_b21 at h
  refine hs_iconst (v := (0 : Int32)) dX8_growth_21 (by decide) ?_
  refine hs_sub (lv' := [(0, .ref x0), (1, .int x1), (2, .int x2)]) [0, 1, 2] rfl ?_
  exact c_X8_growth_b22 hl h
set_option maxHeartbeats 4000000 in
set_option maxRecDepth 20000 in
theorem c_X8_growth {G : hb_G} {l : Launch} (hl : l.stackTraces = false) {x0 : Nat} {x1 : Int32} {x2 : Int32} {σ : hb_M} {r : ((String ⊕ Int32) × hb_M)} (h : f_X8_growth x0 x1 x2 σ = some r) : hb_Call G l true 2 2 12 mX8_growth [.ref x0, .int x1, .int x2] σ (hb_xi r) := by
  refine hb_met (by decide) (Nat.le_of_ble_eq_true rfl) ?_
  unfold f_X8_growth at h
  refine hs_iload_n dX8_growth_0 1 rfl ?_
  obtain ⟨r1, h1, h⟩ := hb_bind h
  refine hs_callSi (μ' := mX8_isPicture) (mc := 0) (ms := 0) (rc := 2) (rs := 12) (As := [.int x1]) (rest := []) dX8_growth_1 lmX8_324 okX8_isPicture rfl (by decide) rfl (Nat.le_of_ble_eq_true rfl) (c_X8_isPicture h1) ?_
  refine hs_if_eq (tgt := 21) dX8_growth_4 (by decide) (fun hc2 => ?_) (fun hc2 => ?_)
  · rw [if_pos hc2] at h
    refine hs_sub (lv' := [(0, .ref x0), (1, .int x1), (2, .int x2)]) [0, 1, 2] rfl ?_
    exact c_X8_growth_b21 hl h
  · rw [if_neg hc2] at h
    refine hs_iload_n dX8_growth_7 2 rfl ?_
    refine hs_if_lt (tgt := 21) dX8_growth_8 (by decide) (fun hc3 => ?_) (fun hc3 => ?_)
    · rw [if_pos hc3] at h
      refine hs_sub (lv' := [(0, .ref x0), (1, .int x1), (2, .int x2)]) [0, 1, 2] rfl ?_
      exact c_X8_growth_b21 hl h
    · rw [if_neg hc3] at h
      refine hs_iload_n dX8_growth_11 2 rfl ?_
      refine hs_bipush (v := (11 : Int32)) dX8_growth_12 (by decide) ?_
      refine hs_icmp_gt (tgt := 21) dX8_growth_14 (by decide) (fun hc4 => ?_) (fun hc4 => ?_)
      · rw [if_pos hc4] at h
        refine hs_sub (lv' := [(0, .ref x0), (1, .int x1), (2, .int x2)]) [0, 1, 2] rfl ?_
        exact c_X8_growth_b21 hl h
      · rw [if_neg hc4] at h
        refine hs_iconst (v := (1 : Int32)) dX8_growth_17 (by decide) ?_
        refine hs_goto (tgt := 22) dX8_growth_18 (by decide) ?_
        refine hs_sub (lv' := [(0, .ref x0), (1, .int x1), (2, .int x2)]) [0, 1, 2] rfl ?_
        exact c_X8_growth_b22 hl h
def mX8_undo : hb_Y := (yX8_undo, cX8_undo, 1, (some .int), [], false)
set_option maxHeartbeats 4000000 in
set_option maxRecDepth 20000 in
theorem c_X8_undo_b15 {G : hb_G} {l : Launch} (hl : l.stackTraces = false)  {x0 : Nat} {s0 : Int32} {σ : hb_M} {r : ((String ⊕ Int32) × hb_M)} (h : f_X8_undo_b15 x0 s0 σ = some r) : hb_T G l true mX8_undo 1 1 6 15 [(0, .ref x0)] [.int s0] σ (hb_xi r) := by
  unfold f_X8_undo_b15 at h
  rcases hb_xb_at h with ⟨E1, r1, h1, hr1⟩ | ⟨v1, r1, h1, h⟩
  · subst hr1
    exact hs_callSx (μ' := mX8_refuse) (mc := 1) (ms := 6) (rc := 0) (rs := 0) (As := [.int s0]) (rest := []) dX8_undo_15 lmX8_74 okX8_refuse rfl (by decide) rfl (Nat.le_of_ble_eq_true rfl) (c_X8_refuse hl h1) rfl
  refine hs_callSv (μ' := mX8_refuse) (mc := 1) (ms := 6) (rc := 0) (rs := 0) (As := [.int s0]) (rest := []) dX8_undo_15 lmX8_74 okX8_refuse rfl (by decide) rfl (Nat.le_of_ble_eq_true rfl) (c_X8_refuse hl h1) ?_
  refine hs_aload_n dX8_undo_18 0 rfl ?_
  obtain ⟨r2, h2, h⟩ := hb_bind h
  refine hs_getR dX8_undo_19 lkX8_10 rfl h2 ?_
  refine hs_aload_n dX8_undo_22 0 rfl ?_
  obtain ⟨r3, h3, h⟩ := hb_bind h
  refine hs_getR dX8_undo_23 lkX8_28 rfl h3 ?_
  obtain ⟨r4, h4, h⟩ := hb_bind h
  obtain ⟨h4, nf4, hb4⟩ := hb_on_at h4
  refine hs_callVa (μ' := mX5_latest) (mc := 0) (ms := 0) (rc := 0) (rs := 0) (As := []) (rest := [.ref r2]) (ci := 5) dX8_undo_26 lmX8_338 okX5_latest rfl (by decide) rfl (Nat.le_of_ble_eq_true rfl) rfl hb4 (c_X5_latest h4) ?_
  obtain ⟨r5, h5, h⟩ := hb_bind h
  obtain ⟨h5, nf5, hb5⟩ := hb_on_at h5
  refine hs_callVv (μ' := mX4_copyFrom) (mc := 0) (ms := 0) (rc := 0) (rs := 0) (As := [.ref r4.1]) (rest := []) (ci := 4) dX8_undo_29 lmX8_315 okX4_copyFrom rfl (by decide) rfl (Nat.le_of_ble_eq_true rfl) rfl hb5 (c_X4_copyFrom h5) ?_
  refine hs_aload_n dX8_undo_32 0 rfl ?_
  obtain ⟨r6, h6, h⟩ := hb_bind h
  refine hs_getR dX8_undo_33 lkX8_28 rfl h6 ?_
  obtain ⟨r7, h7, h⟩ := hb_bind h
  obtain ⟨h7, nf7, hb7⟩ := hb_on_at h7
  refine hs_callVv (μ' := mX5_dropLatest) (mc := 0) (ms := 0) (rc := 0) (rs := 0) (As := []) (rest := []) (ci := 5) dX8_undo_36 lmX8_341 okX5_dropLatest rfl (by decide) rfl (Nat.le_of_ble_eq_true rfl) rfl hb7 (c_X5_dropLatest h7) ?_
  refine hs_aload_n dX8_undo_39 0 rfl ?_
  obtain ⟨r8, h8, h⟩ := hb_bind h
  refine hs_getR dX8_undo_40 lkX8_28 rfl h8 ?_
  obtain ⟨r9, h9, h⟩ := hb_bind h
  refine hs_getI dX8_undo_43 lkX8_337 rfl h9 ?_
  obtain rfl := Option.some.inj h
  exact hs_ireturn dX8_undo_46 rfl (by rfl) (fun _ => rfl)
set_option maxHeartbeats 4000000 in
set_option maxRecDepth 20000 in
theorem c_X8_undo {G : hb_G} {l : Launch} (hl : l.stackTraces = false) {x0 : Nat} {σ : hb_M} {r : ((String ⊕ Int32) × hb_M)} (h : f_X8_undo x0 σ = some r) : hb_Call G l true 1 1 6 mX8_undo [.ref x0] σ (hb_xi r) := by
  refine hb_met (by decide) (Nat.le_of_ble_eq_true rfl) ?_
  unfold f_X8_undo at h
  refine hs_aload_n dX8_undo_0 0 rfl ?_
  obtain ⟨r1, h1, h⟩ := hb_bind h
  refine hs_getR dX8_undo_1 lkX8_28 rfl h1 ?_
  obtain ⟨r2, h2, h⟩ := hb_bind h
  refine hs_getI dX8_undo_4 lkX8_337 rfl h2 ?_
  refine hs_if_le (tgt := 14) dX8_undo_7 (by decide) (fun hc3 => ?_) (fun hc3 => ?_)
  · rw [if_pos hc3] at h
    refine hs_iconst (v := (3 : Int32)) dX8_undo_14 (by decide) ?_
    refine hs_sub (lv' := [(0, .ref x0)]) [0] rfl ?_
    exact c_X8_undo_b15 hl h
  · rw [if_neg hc3] at h
    refine hs_iconst (v := (0 : Int32)) dX8_undo_10 (by decide) ?_
    refine hs_goto (tgt := 15) dX8_undo_11 (by decide) ?_
    refine hs_sub (lv' := [(0, .ref x0)]) [0] rfl ?_
    exact c_X8_undo_b15 hl h
def mX8_mixed : hb_Y := (yX8_mixed, cX8_mixed, 4, (some .long), [], false)
theorem okX8_mixed : hb_okS mX8_mixed 2 := ⟨⟨hb_w 1 (by decide +kernel) (by decide +kernel), hb_w 790 (by decide +kernel) (by decide +kernel), ⟨by decide +kernel, by decide +kernel, by decide +kernel⟩, by decide⟩, hb_w 789 (by decide +kernel) (by decide +kernel)⟩
set_option maxHeartbeats 4000000 in
set_option maxRecDepth 20000 in
theorem c_X8_mixed {G : hb_G} {l : Launch} {z : Bool} {x0 : Int64} {x2 : Int64} {σ : hb_M} {r : (Int64 × hb_M)} (h : f_X8_mixed x0 x2 σ = some r) : hb_Call G l z 0 0 0 mX8_mixed [.long x0, .long x2] σ (.inl (some (.long r.1)), r.2) := by
  refine hb_met (by decide) (Nat.le_of_ble_eq_true rfl) ?_
  unfold f_X8_mixed at h
  refine hs_ldc2 (v := (31 : Int64)) dX8_mixed_0 wd_791 ?_
  refine hs_lload_n dX8_mixed_3 0 rfl ?_
  refine hs_lmul dX8_mixed_4 ?_
  refine hs_lload_n dX8_mixed_5 1 rfl ?_
  refine hs_ladd dX8_mixed_6 ?_
  obtain rfl := Option.some.inj h
  exact hs_lreturn dX8_mixed_7 rfl (fun _ => rfl)
def mX8_mixedWithObject : hb_Y := (yX8_mixedWithObject, cX8_mixedWithObject, 7, (some .long), [], false)
theorem okX8_mixedWithObject : hb_okV mX8_mixedWithObject 2 := ⟨⟨hb_w 1 (by decide +kernel) (by decide +kernel), hb_w 803 (by decide +kernel) (by decide +kernel), ⟨by decide +kernel, by decide +kernel, by decide +kernel⟩, by decide⟩, hb_w 802 (by decide +kernel) (by decide +kernel), hb_wp (q := (yX8_mixedWithObject, 9)) 26 (by decide +kernel) (by decide +kernel)⟩
set_option maxHeartbeats 4000000 in
set_option maxRecDepth 20000 in
theorem c_X8_mixedWithObject_b44 {G : hb_G} {l : Launch} {z : Bool} : ∀ (n : Nat) (x0 : Nat) (x3 : Int32) (x4 : Int64) (x6 : Int32) (σ : hb_M) (r : (Int64 × hb_M)), f_X8_mixedWithObject_b44 n x0 x3 x4 x6 σ = some r → hb_T G l z mX8_mixedWithObject 3 0 0 44 [(0, .ref x0), (3, .int x3), (4, .long x4), (6, .int x6)] [] σ (.inl (some (.long r.1)), r.2) := by
  intro n
  induction n with
  | zero =>
    intro x0 x3 x4 x6 σ r h
    cases h
  | succ n ih =>
    intro x0 x3 x4 x6 σ r h
    rw [f_X8_mixedWithObject_b44] at h
    refine hs_iload dX8_mixedWithObject_44 3 rfl ?_
    refine hs_aload_n dX8_mixedWithObject_46 0 rfl ?_
    obtain ⟨r1, h1, h⟩ := hb_bind h
    refine hs_getR dX8_mixedWithObject_47 lkX8_10 rfl h1 ?_
    obtain ⟨r2, h2, h⟩ := hb_bind h
    refine hs_getR dX8_mixedWithObject_50 lkX8_354 rfl h2 ?_
    refine hs_iload_n dX8_mixedWithObject_53 1 rfl ?_
    obtain ⟨r3, h3, h⟩ := hb_bind h
    refine hs_iald dX8_mixedWithObject_54 h3 ?_
    refine hs_icmp_ge (tgt := 82) dX8_mixedWithObject_55 (by decide) (fun hc4 => ?_) (fun hc4 => ?_)
    · rw [if_pos hc4] at h
      refine hs_lload dX8_mixedWithObject_82 2 rfl ?_
      refine hs_aload_n dX8_mixedWithObject_84 0 rfl ?_
      obtain ⟨r5, h5, h⟩ := hb_bind h
      refine hs_getR dX8_mixedWithObject_85 lkX8_21 rfl h5 ?_
      obtain ⟨r6, h6, h⟩ := hb_bind h
      refine hs_getR dX8_mixedWithObject_88 lkX8_189 rfl h6 ?_
      obtain ⟨r7, h7, h⟩ := hb_bind h
      refine hs_getR dX8_mixedWithObject_91 lkX8_193 rfl h7 ?_
      refine hs_iload_n dX8_mixedWithObject_94 1 rfl ?_
      obtain ⟨r8, h8, h⟩ := hb_bind h
      refine hs_iald dX8_mixedWithObject_95 h8 ?_
      refine hs_i2l dX8_mixedWithObject_96 ?_
      obtain ⟨r9, h9, h⟩ := hb_bind h
      refine hs_callSl (μ' := mX8_mixed) (mc := 0) (ms := 0) (rc := 0) (rs := 0) (As := [.long x4, .long r8.toInt64]) (rest := []) dX8_mixedWithObject_97 lmX8_346 okX8_mixed rfl (by decide) rfl (Nat.le_of_ble_eq_true rfl) (c_X8_mixed h9) ?_
      refine hs_lstore (lv' := [(4, .long r9.1), (0, .ref x0), (3, .int x3), (6, .int x6)]) dX8_mixedWithObject_100 (by decide) rfl ?_
      refine hs_lload dX8_mixedWithObject_102 0 rfl ?_
      refine hs_aload_n dX8_mixedWithObject_104 1 rfl ?_
      obtain ⟨r10, h10, h⟩ := hb_bind h
      refine hs_getR dX8_mixedWithObject_105 lkX8_21 rfl h10 ?_
      obtain ⟨r11, h11, h⟩ := hb_bind h
      refine hs_getR dX8_mixedWithObject_108 lkX8_209 rfl h11 ?_
      refine hs_iload_n dX8_mixedWithObject_111 2 rfl ?_
      obtain ⟨r12, h12, h⟩ := hb_bind h
      refine hs_iald dX8_mixedWithObject_112 h12 ?_
      refine hs_i2l dX8_mixedWithObject_113 ?_
      obtain ⟨r13, h13, h⟩ := hb_bind h
      refine hs_callSl (μ' := mX8_mixed) (mc := 0) (ms := 0) (rc := 0) (rs := 0) (As := [.long r9.1, .long r12.toInt64]) (rest := []) dX8_mixedWithObject_114 lmX8_346 okX8_mixed rfl (by decide) rfl (Nat.le_of_ble_eq_true rfl) (c_X8_mixed h13) ?_
      refine hs_lstore (lv' := [(4, .long r13.1), (0, .ref x0), (3, .int x3), (6, .int x6)]) dX8_mixedWithObject_117 (by decide) rfl ?_
      refine hs_lload dX8_mixedWithObject_119 0 rfl ?_
      refine hs_aload_n dX8_mixedWithObject_121 1 rfl ?_
      obtain ⟨r14, h14, h⟩ := hb_bind h
      refine hs_getR dX8_mixedWithObject_122 lkX8_21 rfl h14 ?_
      obtain ⟨r15, h15, h⟩ := hb_bind h
      refine hs_getR dX8_mixedWithObject_125 lkX8_226 rfl h15 ?_
      refine hs_iload_n dX8_mixedWithObject_128 2 rfl ?_
      obtain ⟨r16, h16, h⟩ := hb_bind h
      refine hs_iald dX8_mixedWithObject_129 h16 ?_
      refine hs_i2l dX8_mixedWithObject_130 ?_
      obtain ⟨r17, h17, h⟩ := hb_bind h
      refine hs_callSl (μ' := mX8_mixed) (mc := 0) (ms := 0) (rc := 0) (rs := 0) (As := [.long r13.1, .long r16.toInt64]) (rest := []) dX8_mixedWithObject_131 lmX8_346 okX8_mixed rfl (by decide) rfl (Nat.le_of_ble_eq_true rfl) (c_X8_mixed h17) ?_
      refine hs_lstore (lv' := [(4, .long r17.1), (0, .ref x0), (3, .int x3), (6, .int x6)]) dX8_mixedWithObject_134 (by decide) rfl ?_
      refine hs_lload dX8_mixedWithObject_136 0 rfl ?_
      refine hs_aload_n dX8_mixedWithObject_138 1 rfl ?_
      obtain ⟨r18, h18, h⟩ := hb_bind h
      refine hs_getR dX8_mixedWithObject_139 lkX8_21 rfl h18 ?_
      obtain ⟨r19, h19, h⟩ := hb_bind h
      refine hs_getR dX8_mixedWithObject_142 lkX8_232 rfl h19 ?_
      refine hs_iload_n dX8_mixedWithObject_145 2 rfl ?_
      obtain ⟨r20, h20, h⟩ := hb_bind h
      refine hs_iald dX8_mixedWithObject_146 h20 ?_
      refine hs_i2l dX8_mixedWithObject_147 ?_
      obtain ⟨r21, h21, h⟩ := hb_bind h
      refine hs_callSl (μ' := mX8_mixed) (mc := 0) (ms := 0) (rc := 0) (rs := 0) (As := [.long r17.1, .long r20.toInt64]) (rest := []) dX8_mixedWithObject_148 lmX8_346 okX8_mixed rfl (by decide) rfl (Nat.le_of_ble_eq_true rfl) (c_X8_mixed h21) ?_
      obtain rfl := Option.some.inj h
      exact hs_lreturn dX8_mixedWithObject_151 rfl (fun _ => rfl)
    · rw [if_neg hc4] at h
      refine hs_lload dX8_mixedWithObject_58 2 rfl ?_
      refine hs_aload_n dX8_mixedWithObject_60 0 rfl ?_
      obtain ⟨r22, h22, h⟩ := hb_bind h
      refine hs_getR dX8_mixedWithObject_61 lkX8_10 rfl h22 ?_
      refine hs_iload_n dX8_mixedWithObject_64 1 rfl ?_
      refine hs_iload dX8_mixedWithObject_65 3 rfl ?_
      obtain ⟨r23, h23, h⟩ := hb_bind h
      obtain ⟨h23, nf23, hb23⟩ := hb_on_at h23
      refine hs_callVi (μ' := mX4_targetOf) (mc := 0) (ms := 0) (rc := 0) (rs := 0) (As := [.int x3, .int x6]) (rest := [.long x4]) (ci := 4) dX8_mixedWithObject_67 lmX8_137 okX4_targetOf rfl (by decide) rfl (Nat.le_of_ble_eq_true rfl) rfl hb23 (c_X4_targetOf h23) ?_
      refine hs_i2l dX8_mixedWithObject_70 ?_
      obtain ⟨r24, h24, h⟩ := hb_bind h
      refine hs_callSl (μ' := mX8_mixed) (mc := 0) (ms := 0) (rc := 0) (rs := 0) (As := [.long x4, .long r23.1.toInt64]) (rest := []) dX8_mixedWithObject_71 lmX8_346 okX8_mixed rfl (by decide) rfl (Nat.le_of_ble_eq_true rfl) (c_X8_mixed h24) ?_
      refine hs_lstore (lv' := [(4, .long r24.1), (0, .ref x0), (3, .int x3), (6, .int x6)]) dX8_mixedWithObject_74 (by decide) rfl ?_
      refine hs_iinc2 (k := (1 : Int32)) (lv' := [(6, .int (x6 + (1 : Int32))), (4, .long r24.1), (0, .ref x0), (3, .int x3)]) dX8_mixedWithObject_76 (by decide) 3 rfl (by decide) rfl ?_
      refine hs_goto (tgt := 44) dX8_mixedWithObject_79 (by decide) ?_
      refine hs_sub (lv' := [(0, .ref x0), (3, .int x3), (4, .long r24.1), (6, .int (x6 + (1 : Int32)))]) [2, 3, 1, 0] rfl ?_
      exact ih _ _ _ _ _ _ h
set_option maxHeartbeats 4000000 in
set_option maxRecDepth 20000 in
theorem c_X8_mixedWithObject_b11 {G : hb_G} {l : Launch} {z : Bool} : ∀ (n : Nat) (x0 : Nat) (x3 : Int32) (x4 : Int64) (x6 : Int32) (σ : hb_M) (r : (Int64 × hb_M)), f_X8_mixedWithObject_b11 n x0 x3 x4 x6 σ = some r → hb_T G l z mX8_mixedWithObject 3 0 0 11 [(0, .ref x0), (3, .int x3), (4, .long x4), (6, .int x6)] [] σ (.inl (some (.long r.1)), r.2) := by
  intro n
  induction n with
  | zero =>
    intro x0 x3 x4 x6 σ r h
    cases h
  | succ n ih =>
    intro x0 x3 x4 x6 σ r h
    rw [f_X8_mixedWithObject_b11] at h
    refine hs_iload dX8_mixedWithObject_11 3 rfl ?_
    refine hs_iconst (v := (5 : Int32)) dX8_mixedWithObject_13 (by decide) ?_
    refine hs_icmp_gt (tgt := 41) dX8_mixedWithObject_14 (by decide) (fun hc1 => ?_) (fun hc1 => ?_)
    · rw [if_pos hc1] at h
      refine hs_iconst (v := (0 : Int32)) dX8_mixedWithObject_41 (by decide) ?_
      refine hs_istore (lv' := [(6, .int (0 : Int32)), (0, .ref x0), (3, .int x3), (4, .long x4)]) dX8_mixedWithObject_42 (by decide) rfl ?_
      refine hs_sub (lv' := [(0, .ref x0), (3, .int x3), (4, .long x4), (6, .int (0 : Int32))]) [1, 2, 3, 0] rfl ?_
      exact c_X8_mixedWithObject_b44 hb_FU _ _ _ _ _ _ h
    · rw [if_neg hc1] at h
      refine hs_lload dX8_mixedWithObject_17 2 rfl ?_
      refine hs_aload_n dX8_mixedWithObject_19 0 rfl ?_
      obtain ⟨r2, h2, h⟩ := hb_bind h
      refine hs_getR dX8_mixedWithObject_20 lkX8_10 rfl h2 ?_
      refine hs_iload_n dX8_mixedWithObject_23 1 rfl ?_
      refine hs_iload dX8_mixedWithObject_24 3 rfl ?_
      obtain ⟨r3, h3, h⟩ := hb_bind h
      obtain ⟨h3, nf3, hb3⟩ := hb_on_at h3
      refine hs_callVi (μ' := mX4_objectFact) (mc := 0) (ms := 0) (rc := 0) (rs := 0) (As := [.int x3, .int x6]) (rest := [.long x4]) (ci := 4) dX8_mixedWithObject_26 lmX8_180 okX4_objectFact rfl (by decide) rfl (Nat.le_of_ble_eq_true rfl) rfl hb3 (c_X4_objectFact h3) ?_
      refine hs_i2l dX8_mixedWithObject_29 ?_
      obtain ⟨r4, h4, h⟩ := hb_bind h
      refine hs_callSl (μ' := mX8_mixed) (mc := 0) (ms := 0) (rc := 0) (rs := 0) (As := [.long x4, .long r3.1.toInt64]) (rest := []) dX8_mixedWithObject_30 lmX8_346 okX8_mixed rfl (by decide) rfl (Nat.le_of_ble_eq_true rfl) (c_X8_mixed h4) ?_
      refine hs_lstore (lv' := [(4, .long r4.1), (0, .ref x0), (3, .int x3), (6, .int x6)]) dX8_mixedWithObject_33 (by decide) rfl ?_
      refine hs_iinc2 (k := (1 : Int32)) (lv' := [(6, .int (x6 + (1 : Int32))), (4, .long r4.1), (0, .ref x0), (3, .int x3)]) dX8_mixedWithObject_35 (by decide) 3 rfl (by decide) rfl ?_
      refine hs_goto (tgt := 11) dX8_mixedWithObject_38 (by decide) ?_
      refine hs_sub (lv' := [(0, .ref x0), (3, .int x3), (4, .long r4.1), (6, .int (x6 + (1 : Int32)))]) [2, 3, 1, 0] rfl ?_
      exact ih _ _ _ _ _ _ h
set_option maxHeartbeats 4000000 in
set_option maxRecDepth 20000 in
theorem c_X8_mixedWithObject {G : hb_G} {l : Launch} {z : Bool} {x0 : Nat} {x1 : Int64} {x3 : Int32} {σ : hb_M} {r : (Int64 × hb_M)} (h : f_X8_mixedWithObject x0 x1 x3 σ = some r) : hb_Call G l z 3 0 0 mX8_mixedWithObject [.ref x0, .long x1, .int x3] σ (.inl (some (.long r.1)), r.2) := by
  refine hb_met (by decide) (Nat.le_of_ble_eq_true rfl) ?_
  unfold f_X8_mixedWithObject at h
  refine hs_lload_n dX8_mixedWithObject_0 1 rfl ?_
  refine hs_iload_n dX8_mixedWithObject_1 2 rfl ?_
  refine hs_i2l dX8_mixedWithObject_2 ?_
  obtain ⟨r1, h1, h⟩ := hb_bind h
  refine hs_callSl (μ' := mX8_mixed) (mc := 0) (ms := 0) (rc := 0) (rs := 0) (As := [.long x1, .long x3.toInt64]) (rest := []) dX8_mixedWithObject_3 lmX8_346 okX8_mixed rfl (by decide) rfl (Nat.le_of_ble_eq_true rfl) (c_X8_mixed h1) ?_
  refine hs_lstore (lv' := [(4, .long r1.1), (0, .ref x0), (1, .long x1), (3, .int x3)]) dX8_mixedWithObject_6 (by decide) rfl ?_
  refine hs_iconst (v := (0 : Int32)) dX8_mixedWithObject_8 (by decide) ?_
  refine hs_istore (lv' := [(6, .int (0 : Int32)), (4, .long r1.1), (0, .ref x0), (1, .long x1), (3, .int x3)]) dX8_mixedWithObject_9 (by decide) rfl ?_
  refine hs_sub (lv' := [(0, .ref x0), (3, .int x3), (4, .long r1.1), (6, .int (0 : Int32))]) [2, 4, 1, 0] rfl ?_
  exact c_X8_mixedWithObject_b11 hb_FU _ _ _ _ _ _ h
def mX8_digest : hb_Y := (yX8_digest, cX8_digest, 5, (some .long), [], false)
set_option maxHeartbeats 4000000 in
set_option maxRecDepth 20000 in
theorem c_X8_digest_b98 {G : hb_G} {l : Launch} {z : Bool}  (k74 : Nat → Int64 → Int32 → hb_M → Option (Int64 × hb_M)) (hk74 : ∀ (x0 : Nat) (x1 : Int64) (x3 : Int32) (σ : hb_M) (r : (Int64 × hb_M)), k74 x0 x1 x3 σ = some r → hb_T G l z mX8_digest 4 0 0 74 [(0, .ref x0), (1, .long x1), (3, .int x3)] [] σ (.inl (some (.long r.1)), r.2))  {x0 : Nat} {x1 : Int64} {x3 : Int32} {σ : hb_M} {r : (Int64 × hb_M)} (h : f_X8_digest_b98 k74 x0 x1 x3 σ = some r) : hb_T G l z mX8_digest 4 0 0 98 [(0, .ref x0), (1, .long x1), (3, .int x3)] [] σ (.inl (some (.long r.1)), r.2) := by
  unfold f_X8_digest_b98 at h
  refine hs_iinc2 (k := (1 : Int32)) (lv' := [(3, .int (x3 + (1 : Int32))), (0, .ref x0), (1, .long x1)]) dX8_digest_98 (by decide) 2 rfl (by decide) rfl ?_
  refine hs_goto (tgt := 74) dX8_digest_101 (by decide) ?_
  refine hs_sub (lv' := [(0, .ref x0), (1, .long x1), (3, .int (x3 + (1 : Int32)))]) [1, 2, 0] rfl ?_
  exact hk74 _ _ _ _ _ h
set_option maxHeartbeats 4000000 in
set_option maxRecDepth 20000 in
theorem c_X8_digest_b74 {G : hb_G} {l : Launch} {z : Bool} : ∀ (n : Nat) (x0 : Nat) (x1 : Int64) (x3 : Int32) (σ : hb_M) (r : (Int64 × hb_M)), f_X8_digest_b74 n x0 x1 x3 σ = some r → hb_T G l z mX8_digest 4 0 0 74 [(0, .ref x0), (1, .long x1), (3, .int x3)] [] σ (.inl (some (.long r.1)), r.2) := by
  intro n
  induction n with
  | zero =>
    intro x0 x1 x3 σ r h
    cases h
  | succ n ih =>
    intro x0 x1 x3 σ r h
    rw [f_X8_digest_b74] at h
    refine hs_iload_n dX8_digest_74 2 rfl ?_
    refine hs_bipush (v := (40 : Int32)) dX8_digest_75 (by decide) ?_
    refine hs_icmp_ge (tgt := 104) dX8_digest_77 (by decide) (fun hc1 => ?_) (fun hc1 => ?_)
    · rw [if_pos hc1] at h
      refine hs_lload_n dX8_digest_104 1 rfl ?_
      refine hs_aload_n dX8_digest_105 0 rfl ?_
      obtain ⟨r2, h2, h⟩ := hb_bind h
      refine hs_getR dX8_digest_106 lkX8_35 rfl h2 ?_
      obtain ⟨r3, h3, h⟩ := hb_bind h
      refine hs_getI dX8_digest_109 lkX8_285 rfl h3 ?_
      refine hs_i2l dX8_digest_112 ?_
      obtain ⟨r4, h4, h⟩ := hb_bind h
      refine hs_callSl (μ' := mX8_mixed) (mc := 0) (ms := 0) (rc := 0) (rs := 0) (As := [.long x1, .long r3.toInt64]) (rest := []) dX8_digest_113 lmX8_346 okX8_mixed rfl (by decide) rfl (Nat.le_of_ble_eq_true rfl) (c_X8_mixed h4) ?_
      refine hs_aload_n dX8_digest_116 0 rfl ?_
      obtain ⟨r5, h5, h⟩ := hb_bind h
      refine hs_getR dX8_digest_117 lkX8_28 rfl h5 ?_
      obtain ⟨r6, h6, h⟩ := hb_bind h
      refine hs_getI dX8_digest_120 lkX8_337 rfl h6 ?_
      refine hs_i2l dX8_digest_123 ?_
      obtain ⟨r7, h7, h⟩ := hb_bind h
      refine hs_callSl (μ' := mX8_mixed) (mc := 0) (ms := 0) (rc := 0) (rs := 0) (As := [.long r4.1, .long r6.toInt64]) (rest := []) dX8_digest_124 lmX8_346 okX8_mixed rfl (by decide) rfl (Nat.le_of_ble_eq_true rfl) (c_X8_mixed h7) ?_
      obtain rfl := Option.some.inj h
      exact hs_lreturn dX8_digest_127 rfl (fun _ => rfl)
    · rw [if_neg hc1] at h
      refine hs_aload_n dX8_digest_80 0 rfl ?_
      obtain ⟨r8, h8, h⟩ := hb_bind h
      refine hs_getR dX8_digest_81 lkX8_10 rfl h8 ?_
      refine hs_iload_n dX8_digest_84 2 rfl ?_
      obtain ⟨r9, h9, h⟩ := hb_bind h
      obtain ⟨h9, nf9, hb9⟩ := hb_on_at h9
      refine hs_callVi (μ' := mX4_hasObject) (mc := 0) (ms := 0) (rc := 0) (rs := 0) (As := [.int x3]) (rest := []) (ci := 4) dX8_digest_85 lmX8_146 okX4_hasObject rfl (by decide) rfl (Nat.le_of_ble_eq_true rfl) rfl hb9 (c_X4_hasObject h9) ?_
      refine hs_if_eq (tgt := 98) dX8_digest_88 (by decide) (fun hc10 => ?_) (fun hc10 => ?_)
      · rw [if_pos hc10] at h
        refine hs_sub (lv' := [(0, .ref x0), (1, .long x1), (3, .int x3)]) [0, 1, 2] rfl ?_
        exact c_X8_digest_b98 (f_X8_digest_b74 n) ih h
      · rw [if_neg hc10] at h
        refine hs_aload_n dX8_digest_91 0 rfl ?_
        refine hs_lload_n dX8_digest_92 1 rfl ?_
        refine hs_iload_n dX8_digest_93 2 rfl ?_
        obtain ⟨r11, h11, h⟩ := hb_bind h
        obtain ⟨h11, nf11, hb11⟩ := hb_on_at h11
        refine hs_callVl (μ' := mX8_mixedWithObject) (mc := 0) (ms := 0) (rc := 0) (rs := 0) (As := [.long x1, .int x3]) (rest := []) (ci := 8) dX8_digest_94 lmX8_350 okX8_mixedWithObject rfl (by decide) rfl (Nat.le_of_ble_eq_true rfl) rfl hb11 (c_X8_mixedWithObject h11) ?_
        refine hs_lstore_n (lv' := [(1, .long r11.1), (0, .ref x0), (3, .int x3)]) dX8_digest_97 (by decide) rfl ?_
        refine hs_sub (lv' := [(0, .ref x0), (1, .long r11.1), (3, .int x3)]) [1, 0, 2] rfl ?_
        exact c_X8_digest_b98 (f_X8_digest_b74 n) ih h
set_option maxHeartbeats 4000000 in
set_option maxRecDepth 20000 in
theorem c_X8_digest_b38 {G : hb_G} {l : Launch} {z : Bool}  (k24 : Nat → Int64 → Int32 → hb_M → Option (Int64 × hb_M)) (hk24 : ∀ (x0 : Nat) (x1 : Int64) (x3 : Int32) (σ : hb_M) (r : (Int64 × hb_M)), k24 x0 x1 x3 σ = some r → hb_T G l z mX8_digest 4 0 0 24 [(0, .ref x0), (1, .long x1), (3, .int x3)] [] σ (.inl (some (.long r.1)), r.2)) : ∀ (n : Nat) (x0 : Nat) (x1 : Int64) (x3 : Int32) (x4 : Int32) (σ : hb_M) (r : (Int64 × hb_M)), f_X8_digest_b38 k24 n x0 x1 x3 x4 σ = some r → hb_T G l z mX8_digest 4 0 0 38 [(0, .ref x0), (1, .long x1), (3, .int x3), (4, .int x4)] [] σ (.inl (some (.long r.1)), r.2) := by
  intro n
  induction n with
  | zero =>
    intro x0 x1 x3 x4 σ r h
    cases h
  | succ n ih =>
    intro x0 x1 x3 x4 σ r h
    rw [f_X8_digest_b38] at h
    refine hs_iload dX8_digest_38 3 rfl ?_
    refine hs_iconst (v := (2 : Int32)) dX8_digest_40 (by decide) ?_
    refine hs_icmp_gt (tgt := 66) dX8_digest_41 (by decide) (fun hc1 => ?_) (fun hc1 => ?_)
    · rw [if_pos hc1] at h
      refine hs_iinc2 (k := (1 : Int32)) (lv' := [(3, .int (x3 + (1 : Int32))), (0, .ref x0), (1, .long x1), (4, .int x4)]) dX8_digest_66 (by decide) 2 rfl (by decide) rfl ?_
      refine hs_goto (tgt := 24) dX8_digest_69 (by decide) ?_
      refine hs_sub (lv' := [(0, .ref x0), (1, .long x1), (3, .int (x3 + (1 : Int32)))]) [1, 2, 0] rfl ?_
      exact hk24 _ _ _ _ _ h
    · rw [if_neg hc1] at h
      refine hs_lload_n dX8_digest_44 1 rfl ?_
      refine hs_aload_n dX8_digest_45 0 rfl ?_
      obtain ⟨r2, h2, h⟩ := hb_bind h
      refine hs_getR dX8_digest_46 lkX8_10 rfl h2 ?_
      refine hs_iload_n dX8_digest_49 2 rfl ?_
      refine hs_iload dX8_digest_50 3 rfl ?_
      obtain ⟨r3, h3, h⟩ := hb_bind h
      obtain ⟨h3, nf3, hb3⟩ := hb_on_at h3
      refine hs_callVi (μ' := mX4_classFact) (mc := 0) (ms := 0) (rc := 0) (rs := 0) (As := [.int x3, .int x4]) (rest := [.long x1]) (ci := 4) dX8_digest_52 lmX8_96 okX4_classFact rfl (by decide) rfl (Nat.le_of_ble_eq_true rfl) rfl hb3 (c_X4_classFact h3) ?_
      refine hs_i2l dX8_digest_55 ?_
      obtain ⟨r4, h4, h⟩ := hb_bind h
      refine hs_callSl (μ' := mX8_mixed) (mc := 0) (ms := 0) (rc := 0) (rs := 0) (As := [.long x1, .long r3.1.toInt64]) (rest := []) dX8_digest_56 lmX8_346 okX8_mixed rfl (by decide) rfl (Nat.le_of_ble_eq_true rfl) (c_X8_mixed h4) ?_
      refine hs_lstore_n (lv' := [(1, .long r4.1), (0, .ref x0), (3, .int x3), (4, .int x4)]) dX8_digest_59 (by decide) rfl ?_
      refine hs_iinc2 (k := (1 : Int32)) (lv' := [(4, .int (x4 + (1 : Int32))), (1, .long r4.1), (0, .ref x0), (3, .int x3)]) dX8_digest_60 (by decide) 3 rfl (by decide) rfl ?_
      refine hs_goto (tgt := 38) dX8_digest_63 (by decide) ?_
      refine hs_sub (lv' := [(0, .ref x0), (1, .long r4.1), (3, .int x3), (4, .int (x4 + (1 : Int32)))]) [2, 1, 3, 0] rfl ?_
      exact ih _ _ _ _ _ _ h
set_option maxHeartbeats 4000000 in
set_option maxRecDepth 20000 in
theorem c_X8_digest_b24 {G : hb_G} {l : Launch} {z : Bool} : ∀ (n : Nat) (x0 : Nat) (x1 : Int64) (x3 : Int32) (σ : hb_M) (r : (Int64 × hb_M)), f_X8_digest_b24 n x0 x1 x3 σ = some r → hb_T G l z mX8_digest 4 0 0 24 [(0, .ref x0), (1, .long x1), (3, .int x3)] [] σ (.inl (some (.long r.1)), r.2) := by
  intro n
  induction n with
  | zero =>
    intro x0 x1 x3 σ r h
    cases h
  | succ n ih =>
    intro x0 x1 x3 σ r h
    rw [f_X8_digest_b24] at h
    refine hs_iload_n dX8_digest_24 2 rfl ?_
    refine hs_aload_n dX8_digest_25 0 rfl ?_
    obtain ⟨r1, h1, h⟩ := hb_bind h
    refine hs_getR dX8_digest_26 lkX8_10 rfl h1 ?_
    obtain ⟨r2, h2, h⟩ := hb_bind h
    refine hs_getI dX8_digest_29 lkX8_84 rfl h2 ?_
    refine hs_icmp_ge (tgt := 72) dX8_digest_32 (by decide) (fun hc3 => ?_) (fun hc3 => ?_)
    · rw [if_pos hc3] at h
      refine hs_iconst (v := (0 : Int32)) dX8_digest_72 (by decide) ?_
      refine hs_istore_n (lv' := [(3, .int (0 : Int32)), (0, .ref x0), (1, .long x1)]) dX8_digest_73 (by decide) rfl ?_
      refine hs_sub (lv' := [(0, .ref x0), (1, .long x1), (3, .int (0 : Int32))]) [1, 2, 0] rfl ?_
      exact c_X8_digest_b74 hb_FU _ _ _ _ _ h
    · rw [if_neg hc3] at h
      refine hs_iconst (v := (0 : Int32)) dX8_digest_35 (by decide) ?_
      refine hs_istore (lv' := [(4, .int (0 : Int32)), (0, .ref x0), (1, .long x1), (3, .int x3)]) dX8_digest_36 (by decide) rfl ?_
      refine hs_sub (lv' := [(0, .ref x0), (1, .long x1), (3, .int x3), (4, .int (0 : Int32))]) [1, 2, 3, 0] rfl ?_
      exact c_X8_digest_b38 (f_X8_digest_b24 n) ih hb_FU _ _ _ _ _ _ h
set_option maxHeartbeats 4000000 in
set_option maxRecDepth 20000 in
theorem c_X8_digest {G : hb_G} {l : Launch} {z : Bool} {x0 : Nat} {σ : hb_M} {r : (Int64 × hb_M)} (h : f_X8_digest x0 σ = some r) : hb_Call G l z 4 0 0 mX8_digest [.ref x0] σ (.inl (some (.long r.1)), r.2) := by
  refine hb_met (by decide) (Nat.le_of_ble_eq_true rfl) ?_
  unfold f_X8_digest at h
  refine hs_aload_n dX8_digest_0 0 rfl ?_
  obtain ⟨r1, h1, h⟩ := hb_bind h
  refine hs_getR dX8_digest_1 lkX8_21 rfl h1 ?_
  obtain ⟨r2, h2, h⟩ := hb_bind h
  obtain ⟨h2, nf2, hb2⟩ := hb_on_at h2
  refine hs_callVv (μ' := mX0_refresh) (mc := 0) (ms := 0) (rc := 0) (rs := 0) (As := []) (rest := []) (ci := 0) dX8_digest_4 lmX8_171 okX0_refresh rfl (by decide) rfl (Nat.le_of_ble_eq_true rfl) rfl hb2 (c_X0_refresh h2) ?_
  refine hs_ldc2 (v := (1759 : Int64)) dX8_digest_7 wd_787 ?_
  refine hs_aload_n dX8_digest_10 0 rfl ?_
  obtain ⟨r3, h3, h⟩ := hb_bind h
  refine hs_getR dX8_digest_11 lkX8_10 rfl h3 ?_
  obtain ⟨r4, h4, h⟩ := hb_bind h
  refine hs_getI dX8_digest_14 lkX8_84 rfl h4 ?_
  refine hs_i2l dX8_digest_17 ?_
  obtain ⟨r5, h5, h⟩ := hb_bind h
  refine hs_callSl (μ' := mX8_mixed) (mc := 0) (ms := 0) (rc := 0) (rs := 0) (As := [.long (1759 : Int64), .long r4.toInt64]) (rest := []) dX8_digest_18 lmX8_346 okX8_mixed rfl (by decide) rfl (Nat.le_of_ble_eq_true rfl) (c_X8_mixed h5) ?_
  refine hs_lstore_n (lv' := [(1, .long r5.1), (0, .ref x0)]) dX8_digest_21 (by decide) rfl ?_
  refine hs_iconst (v := (0 : Int32)) dX8_digest_22 (by decide) ?_
  refine hs_istore_n (lv' := [(3, .int (0 : Int32)), (1, .long r5.1), (0, .ref x0)]) dX8_digest_23 (by decide) rfl ?_
  refine hs_sub (lv' := [(0, .ref x0), (1, .long r5.1), (3, .int (0 : Int32))]) [2, 1, 0] rfl ?_
  exact c_X8_digest_b24 hb_FU _ _ _ _ _ h
