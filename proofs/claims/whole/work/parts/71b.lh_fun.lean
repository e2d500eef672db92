theorem okX8_defineClass : hb_okV mX8_defineClass 3 := ⟨⟨hb_w 1 (by decide +kernel) (by decide +kernel), hb_w 821 (by decide +kernel) (by decide +kernel), ⟨by decide +kernel, by decide +kernel, by decide +kernel⟩, by decide⟩, hb_w 819 (by decide +kernel) (by decide +kernel), hb_w 820 (by decide +kernel) (by decide +kernel)⟩
theorem okX8_classInfo : hb_okV mX8_classInfo 2 := ⟨⟨hb_w 1 (by decide +kernel) (by decide +kernel), hb_w 932 (by decide +kernel) (by decide +kernel), ⟨by decide +kernel, by decide +kernel, by decide +kernel⟩, by decide⟩, hb_w 930 (by decide +kernel) (by decide +kernel), hb_w 931 (by decide +kernel) (by decide +kernel)⟩
theorem okX8_isSubclass : hb_okV mX8_isSubclass 2 := ⟨⟨hb_w 1 (by decide +kernel) (by decide +kernel), hb_w 941 (by decide +kernel) (by decide +kernel), ⟨by decide +kernel, by decide +kernel, by decide +kernel⟩, by decide⟩, hb_w 939 (by decide +kernel) (by decide +kernel), hb_w 940 (by decide +kernel) (by decide +kernel)⟩
theorem okX8_newInstance : hb_okV mX8_newInstance 1 := ⟨⟨hb_w 1 (by decide +kernel) (by decide +kernel), hb_w 952 (by decide +kernel) (by decide +kernel), ⟨by decide +kernel, by decide +kernel, by decide +kernel⟩, by decide⟩, hb_w 950 (by decide +kernel) (by decide +kernel), hb_w 951 (by decide +kernel) (by decide +kernel)⟩
theorem okX8_newArray : hb_okV mX8_newArray 1 := ⟨⟨hb_w 1 (by decide +kernel) (by decide +kernel), hb_w 961 (by decide +kernel) (by decide +kernel), ⟨by decide +kernel, by decide +kernel, by decide +kernel⟩, by decide⟩, hb_w 959 (by decide +kernel) (by decide +kernel), hb_w 960 (by decide +kernel) (by decide +kernel)⟩
theorem okX8_newHolder : hb_okV mX8_newHolder 0 := ⟨⟨hb_w 1 (by decide +kernel) (by decide +kernel), hb_w 970 (by decide +kernel) (by decide +kernel), ⟨by decide +kernel, by decide +kernel, by decide +kernel⟩, by decide⟩, hb_w 968 (by decide +kernel) (by decide +kernel), hb_w 969 (by decide +kernel) (by decide +kernel)⟩
theorem okX8_set : hb_okV mX8_set 3 := ⟨⟨hb_w 1 (by decide +kernel) (by decide +kernel), hb_w 979 (by decide +kernel) (by decide +kernel), ⟨by decide +kernel, by decide +kernel, by decide +kernel⟩, by decide⟩, hb_w 977 (by decide +kernel) (by decide +kernel), hb_w 978 (by decide +kernel) (by decide +kernel)⟩
theorem okX8_get : hb_okV mX8_get 2 := ⟨⟨hb_w 1 (by decide +kernel) (by decide +kernel), hb_w 988 (by decide +kernel) (by decide +kernel), ⟨by decide +kernel, by decide +kernel, by decide +kernel⟩, by decide⟩, hb_w 986 (by decide +kernel) (by decide +kernel), hb_w 987 (by decide +kernel) (by decide +kernel)⟩
theorem okX8_resizeArray : hb_okV mX8_resizeArray 2 := ⟨⟨hb_w 1 (by decide +kernel) (by decide +kernel), hb_w 996 (by decide +kernel) (by decide +kernel), ⟨by decide +kernel, by decide +kernel, by decide +kernel⟩, by decide⟩, hb_w 994 (by decide +kernel) (by decide +kernel), hb_w 995 (by decide +kernel) (by decide +kernel)⟩
theorem okX8_referent : hb_okV mX8_referent 1 := ⟨⟨hb_w 1 (by decide +kernel) (by decide +kernel), hb_w 1011 (by decide +kernel) (by decide +kernel), ⟨by decide +kernel, by decide +kernel, by decide +kernel⟩, by decide⟩, hb_w 1009 (by decide +kernel) (by decide +kernel), hb_w 1010 (by decide +kernel) (by decide +kernel)⟩
theorem okX8_addRoot : hb_okV mX8_addRoot 2 := ⟨⟨hb_w 1 (by decide +kernel) (by decide +kernel), hb_w 1018 (by decide +kernel) (by decide +kernel), ⟨by decide +kernel, by decide +kernel, by decide +kernel⟩, by decide⟩, hb_w 1016 (by decide +kernel) (by decide +kernel), hb_w 1017 (by decide +kernel) (by decide +kernel)⟩
theorem okX8_removeRoot : hb_okV mX8_removeRoot 2 := ⟨⟨hb_w 1 (by decide +kernel) (by decide +kernel), hb_w 1027 (by decide +kernel) (by decide +kernel), ⟨by decide +kernel, by decide +kernel, by decide +kernel⟩, by decide⟩, hb_w 1025 (by decide +kernel) (by decide +kernel), hb_w 1026 (by decide +kernel) (by decide +kernel)⟩
theorem okX8_objectInfo : hb_okV mX8_objectInfo 2 := ⟨⟨hb_w 1 (by decide +kernel) (by decide +kernel), hb_w 1035 (by decide +kernel) (by decide +kernel), ⟨by decide +kernel, by decide +kernel, by decide +kernel⟩, by decide⟩, hb_w 1033 (by decide +kernel) (by decide +kernel), hb_w 1034 (by decide +kernel) (by decide +kernel)⟩
theorem okX8_populate : hb_okV mX8_populate 2 := ⟨⟨hb_w 1 (by decide +kernel) (by decide +kernel), hb_w 1042 (by decide +kernel) (by decide +kernel), ⟨by decide +kernel, by decide +kernel, by decide +kernel⟩, by decide⟩, hb_w 1040 (by decide +kernel) (by decide +kernel), hb_w 1041 (by decide +kernel) (by decide +kernel)⟩
theorem okX8_distance : hb_okV mX8_distance 1 := ⟨⟨hb_w 1 (by decide +kernel) (by decide +kernel), hb_w 1079 (by decide +kernel) (by decide +kernel), ⟨by decide +kernel, by decide +kernel, by decide +kernel⟩, by decide⟩, hb_w 1077 (by decide +kernel) (by decide +kernel), hb_w 1078 (by decide +kernel) (by decide +kernel)⟩
theorem okX8_pathAt : hb_okV mX8_pathAt 2 := ⟨⟨hb_w 1 (by decide +kernel) (by decide +kernel), hb_w 1086 (by decide +kernel) (by decide +kernel), ⟨by decide +kernel, by decide +kernel, by decide +kernel⟩, by decide⟩, hb_w 1084 (by decide +kernel) (by decide +kernel), hb_w 1085 (by decide +kernel) (by decide +kernel)⟩
theorem okX8_dominates : hb_okV mX8_dominates 2 := ⟨⟨hb_w 1 (by decide +kernel) (by decide +kernel), hb_w 1097 (by decide +kernel) (by decide +kernel), ⟨by decide +kernel, by decide +kernel, by decide +kernel⟩, by decide⟩, hb_w 1095 (by decide +kernel) (by decide +kernel), hb_w 1096 (by decide +kernel) (by decide +kernel)⟩
theorem okX8_dominator : hb_okV mX8_dominator 1 := ⟨⟨hb_w 1 (by decide +kernel) (by decide +kernel), hb_w 1104 (by decide +kernel) (by decide +kernel), ⟨by decide +kernel, by decide +kernel, by decide +kernel⟩, by decide⟩, hb_w 1102 (by decide +kernel) (by decide +kernel), hb_w 1103 (by decide +kernel) (by decide +kernel)⟩
theorem okX8_depth : hb_okV mX8_depth 1 := ⟨⟨hb_w 1 (by decide +kernel) (by decide +kernel), hb_w 1111 (by decide +kernel) (by decide +kernel), ⟨by decide +kernel, by decide +kernel, by decide +kernel⟩, by decide⟩, hb_w 1109 (by decide +kernel) (by decide +kernel), hb_w 1110 (by decide +kernel) (by decide +kernel)⟩
theorem okX8_dominatedAt : hb_okV mX8_dominatedAt 2 := ⟨⟨hb_w 1 (by decide +kernel) (by decide +kernel), hb_w 1118 (by decide +kernel) (by decide +kernel), ⟨by decide +kernel, by decide +kernel, by decide +kernel⟩, by decide⟩, hb_w 1116 (by decide +kernel) (by decide +kernel), hb_w 1117 (by decide +kernel) (by decide +kernel)⟩
theorem okX8_retainedSize : hb_okV mX8_retainedSize 1 := ⟨⟨hb_w 1 (by decide +kernel) (by decide +kernel), hb_w 1129 (by decide +kernel) (by decide +kernel), ⟨by decide +kernel, by decide +kernel, by decide +kernel⟩, by decide⟩, hb_w 1127 (by decide +kernel) (by decide +kernel), hb_w 1128 (by decide +kernel) (by decide +kernel)⟩
theorem okX8_retainedObjects : hb_okV mX8_retainedObjects 1 := ⟨⟨hb_w 1 (by decide +kernel) (by decide +kernel), hb_w 1136 (by decide +kernel) (by decide +kernel), ⟨by decide +kernel, by decide +kernel, by decide +kernel⟩, by decide⟩, hb_w 1134 (by decide +kernel) (by decide +kernel), hb_w 1135 (by decide +kernel) (by decide +kernel)⟩
theorem okX8_component : hb_okV mX8_component 1 := ⟨⟨hb_w 1 (by decide +kernel) (by decide +kernel), hb_w 1144 (by decide +kernel) (by decide +kernel), ⟨by decide +kernel, by decide +kernel, by decide +kernel⟩, by decide⟩, hb_w 1142 (by decide +kernel) (by decide +kernel), hb_w 1143 (by decide +kernel) (by decide +kernel)⟩
theorem okX8_componentSize : hb_okV mX8_componentSize 1 := ⟨⟨hb_w 1 (by decide +kernel) (by decide +kernel), hb_w 1151 (by decide +kernel) (by decide +kernel), ⟨by decide +kernel, by decide +kernel, by decide +kernel⟩, by decide⟩, hb_w 1149 (by decide +kernel) (by decide +kernel), hb_w 1150 (by decide +kernel) (by decide +kernel)⟩
theorem okX8_freedByClearing : hb_okV mX8_freedByClearing 2 := ⟨⟨hb_w 1 (by decide +kernel) (by decide +kernel), hb_w 1162 (by decide +kernel) (by decide +kernel), ⟨by decide +kernel, by decide +kernel, by decide +kernel⟩, by decide⟩, hb_w 1160 (by decide +kernel) (by decide +kernel), hb_w 1161 (by decide +kernel) (by decide +kernel)⟩
theorem okX8_freedByUnrooting : hb_okV mX8_freedByUnrooting 1 := ⟨⟨hb_w 1 (by decide +kernel) (by decide +kernel), hb_w 1173 (by decide +kernel) (by decide +kernel), ⟨by decide +kernel, by decide +kernel, by decide +kernel⟩, by decide⟩, hb_w 1171 (by decide +kernel) (by decide +kernel), hb_w 1172 (by decide +kernel) (by decide +kernel)⟩
theorem okX8_group : hb_okV mX8_group 3 := ⟨⟨hb_w 1 (by decide +kernel) (by decide +kernel), hb_w 1184 (by decide +kernel) (by decide +kernel), ⟨by decide +kernel, by decide +kernel, by decide +kernel⟩, by decide⟩, hb_w 1182 (by decide +kernel) (by decide +kernel), hb_w 1183 (by decide +kernel) (by decide +kernel)⟩
theorem okX8_meanRetainedBits : hb_okV mX8_meanRetainedBits 1 := ⟨⟨hb_w 1 (by decide +kernel) (by decide +kernel), hb_w 1196 (by decide +kernel) (by decide +kernel), ⟨by decide +kernel, by decide +kernel, by decide +kernel⟩, by decide⟩, hb_w 1194 (by decide +kernel) (by decide +kernel), hb_w 1195 (by decide +kernel) (by decide +kernel)⟩
theorem okX8_shareBits : hb_okV mX8_shareBits 1 := ⟨⟨hb_w 1 (by decide +kernel) (by decide +kernel), hb_w 1207 (by decide +kernel) (by decide +kernel), ⟨by decide +kernel, by decide +kernel, by decide +kernel⟩, by decide⟩, hb_w 1205 (by decide +kernel) (by decide +kernel), hb_w 1206 (by decide +kernel) (by decide +kernel)⟩
theorem okX8_suspectAt : hb_okV mX8_suspectAt 2 := ⟨⟨hb_w 1 (by decide +kernel) (by decide +kernel), hb_w 1214 (by decide +kernel) (by decide +kernel), ⟨by decide +kernel, by decide +kernel, by decide +kernel⟩, by decide⟩, hb_w 1212 (by decide +kernel) (by decide +kernel), hb_w 1213 (by decide +kernel) (by decide +kernel)⟩
theorem okX8_accumulationPoint : hb_okV mX8_accumulationPoint 2 := ⟨⟨hb_w 1 (by decide +kernel) (by decide +kernel), hb_w 1238 (by decide +kernel) (by decide +kernel), ⟨by decide +kernel, by decide +kernel, by decide +kernel⟩, by decide⟩, hb_w 1236 (by decide +kernel) (by decide +kernel), hb_w 1237 (by decide +kernel) (by decide +kernel)⟩
theorem okX8_append : hb_okV mX8_append 1 := ⟨⟨hb_w 1 (by decide +kernel) (by decide +kernel), hb_w 1251 (by decide +kernel) (by decide +kernel), ⟨by decide +kernel, by decide +kernel, by decide +kernel⟩, by decide⟩, hb_w 1249 (by decide +kernel) (by decide +kernel), hb_w 1250 (by decide +kernel) (by decide +kernel)⟩
theorem okX8_take : hb_okV mX8_take 1 := ⟨⟨hb_w 1 (by decide +kernel) (by decide +kernel), hb_w 1262 (by decide +kernel) (by decide +kernel), ⟨by decide +kernel, by decide +kernel, by decide +kernel⟩, by decide⟩, hb_w 1260 (by decide +kernel) (by decide +kernel), hb_w 1261 (by decide +kernel) (by decide +kernel)⟩
theorem okX8_compare : hb_okV mX8_compare 2 := ⟨⟨hb_w 1 (by decide +kernel) (by decide +kernel), hb_w 1272 (by decide +kernel) (by decide +kernel), ⟨by decide +kernel, by decide +kernel, by decide +kernel⟩, by decide⟩, hb_w 1270 (by decide +kernel) (by decide +kernel), hb_w 1271 (by decide +kernel) (by decide +kernel)⟩
theorem okX8_growth : hb_okV mX8_growth 2 := ⟨⟨hb_w 1 (by decide +kernel) (by decide +kernel), hb_w 1301 (by decide +kernel) (by decide +kernel), ⟨by decide +kernel, by decide +kernel, by decide +kernel⟩, by decide⟩, hb_w 1299 (by decide +kernel) (by decide +kernel), hb_w 1300 (by decide +kernel) (by decide +kernel)⟩
theorem okX8_undo : hb_okV mX8_undo 0 := ⟨⟨hb_w 1 (by decide +kernel) (by decide +kernel), hb_w 1308 (by decide +kernel) (by decide +kernel), ⟨by decide +kernel, by decide +kernel, by decide +kernel⟩, by decide⟩, hb_w 1306 (by decide +kernel) (by decide +kernel), hb_w 1307 (by decide +kernel) (by decide +kernel)⟩
def mL_defineClass : hb_Y := (yL_defineClass, cL_defineClass, 6, (some .int), [(0, 12, 15, 13), (0, 12, 19, 15), (0, 12, 23, 17)], false)
set_option maxHeartbeats 4000000 in
set_option maxRecDepth 20000 in
theorem c_L_defineClass {G : hb_G} {l : Launch} (hl : l.stackTraces = false) {x0 : Nat} {x1 : Int32} {x2 : Int32} {x3 : Int32} {x4 : Nat} {σ : hb_M} {r : (Int32 × hb_M)} (h : f_L_defineClass x0 x1 x2 x3 x4 σ = some r) : hb_CallX G l true 4 1 6 mL_defineClass [.ref x0, .int x1, .int x2, .int x3, .ref x4] σ (.inl (some (.int r.1)), r.2) := by
  refine hb_metX (by decide) (Nat.le_of_ble_eq_true rfl) ?_
  unfold f_L_defineClass at h
  refine hs_aload dL_defineClass_0 4 rfl ?_
  refine hs_iconst (v := (0 : Int32)) dL_defineClass_2 (by decide) ?_
  refine hs_aload_n dL_defineClass_3 0 rfl ?_
  refine hs_iload_n dL_defineClass_4 1 rfl ?_
  refine hs_iload_n dL_defineClass_5 2 rfl ?_
  refine hs_iload_n dL_defineClass_6 3 rfl ?_
  rcases hb_xc_at h with ⟨E1, r1, h1, h⟩ | ⟨v1, r1, h1, h⟩
  · obtain ⟨h1, nf1, hb1⟩ := hb_on_at h1
    by_cases hE0 : E1 = hb_e1
    · rw [if_pos hE0] at h
      subst hE0
      refine hs_callVx (μ' := mX8_defineClass) (mc := 1) (ms := 6) (rc := 0) (rs := 0) (E := hb_e1) (As := [.int x1, .int x2, .int x3]) (rest := [.int (0 : Int32), .ref x4]) (ci := 8) (k := 5) (ln := 2) dL_defineClass_7 lmL_7 okX8_defineClass rfl (by decide) rfl (Nat.le_of_ble_eq_true rfl) rfl hb1 (c_X8_defineClass hl h1) [] ⟨0, 12, 15, 13⟩ [⟨0, 12, 19, 15⟩, ⟨0, 12, 23, 17⟩] rfl (fun y hy => by cases hy) rfl (by decide) clL_13 (by decide +kernel) (by decide) (Or.inl ⟨dL_defineClass_15, rfl⟩) ?_
      refine hs_iconst (v := (1 : Int32)) dL_defineClass_17 (by decide) ?_
      obtain rfl := Option.some.inj h
      exact hs_ireturn dL_defineClass_18 rfl (by rfl) (fun h => by cases h)
    rw [if_neg hE0] at h
    by_cases hE1 : E1 = hb_e2
    · rw [if_pos hE1] at h
      subst hE1
      refine hs_callVx (μ' := mX8_defineClass) (mc := 1) (ms := 6) (rc := 0) (rs := 0) (E := hb_e2) (As := [.int x1, .int x2, .int x3]) (rest := [.int (0 : Int32), .ref x4]) (ci := 8) (k := 5) (ln := 2) dL_defineClass_7 lmL_7 okX8_defineClass rfl (by decide) rfl (Nat.le_of_ble_eq_true rfl) rfl hb1 (c_X8_defineClass hl h1) [⟨0, 12, 15, 13⟩] ⟨0, 12, 19, 15⟩ [⟨0, 12, 23, 17⟩] rfl (by simp only [List.mem_cons, List.not_mem_nil, or_false, forall_eq_or_imp, forall_eq]; exact Or.inr ⟨by decide, hb_e1, clL_13, by decide +kernel⟩) rfl (by decide) clL_15 (by decide +kernel) (by decide) (Or.inl ⟨dL_defineClass_19, rfl⟩) ?_
      refine hs_iconst (v := (2 : Int32)) dL_defineClass_21 (by decide) ?_
      obtain rfl := Option.some.inj h
      exact hs_ireturn dL_defineClass_22 rfl (by rfl) (fun h => by cases h)
    rw [if_neg hE1] at h
    by_cases hE2 : E1 = hb_e3
    · rw [if_pos hE2] at h
      subst hE2
      refine hs_callVx (μ' := mX8_defineClass) (mc := 1) (ms := 6) (rc := 0) (rs := 0) (E := hb_e3) (As := [.int x1, .int x2, .int x3]) (rest := [.int (0 : Int32), .ref x4]) (ci := 8) (k := 5) (ln := 2) dL_defineClass_7 lmL_7 okX8_defineClass rfl (by decide) rfl (Nat.le_of_ble_eq_true rfl) rfl hb1 (c_X8_defineClass hl h1) [⟨0, 12, 15, 13⟩, ⟨0, 12, 19, 15⟩] ⟨0, 12, 23, 17⟩ [] rfl (by simp only [List.mem_cons, List.not_mem_nil, or_false, forall_eq_or_imp, forall_eq]; exact ⟨Or.inr ⟨by decide, hb_e1, clL_13, by decide +kernel⟩, Or.inr ⟨by decide, hb_e2, clL_15, by decide +kernel⟩⟩) rfl (by decide) clL_17 (by decide +kernel) (by decide) (Or.inl ⟨dL_defineClass_23, rfl⟩) ?_
      refine hs_iconst (v := (3 : Int32)) dL_defineClass_25 (by decide) ?_
      obtain rfl := Option.some.inj h
      exact hs_ireturn dL_defineClass_26 rfl (by rfl) (fun h => by cases h)
    rw [if_neg hE2] at h
    cases h
  obtain ⟨h1, nf1, hb1⟩ := hb_on_at h1
  refine hs_callVi (μ' := mX8_defineClass) (mc := 1) (ms := 6) (rc := 0) (rs := 0) (As := [.int x1, .int x2, .int x3]) (rest := [.int (0 : Int32), .ref x4]) (ci := 8) dL_defineClass_7 lmL_7 okX8_defineClass rfl (by decide) rfl (Nat.le_of_ble_eq_true rfl) rfl hb1 (c_X8_defineClass hl h1) ?_
  refine hs_i2l dL_defineClass_10 ?_
  obtain ⟨r2, h2, h⟩ := hb_bind h
  refine hs_last dL_defineClass_11 h2 ?_
  refine hs_goto (tgt := 27) dL_defineClass_12 (by decide) ?_
  refine hs_iconst (v := (0 : Int32)) dL_defineClass_27 (by decide) ?_
  obtain rfl := Option.some.inj h
  exact hs_ireturn dL_defineClass_28 rfl (by rfl) (fun _ => rfl)
def mL_classInfo : hb_Y := (yL_classInfo, cL_classInfo, 5, (some .int), [(0, 10, 13, 13), (0, 10, 17, 15)], false)
set_option maxHeartbeats 4000000 in
set_option maxRecDepth 20000 in
theorem c_L_classInfo {G : hb_G} {l : Launch} (hl : l.stackTraces = false) {x0 : Nat} {x1 : Int32} {x2 : Int32} {x3 : Nat} {σ : hb_M} {r : (Int32 × hb_M)} (h : f_L_classInfo x0 x1 x2 x3 σ = some r) : hb_CallX G l true 4 1 6 mL_classInfo [.ref x0, .int x1, .int x2, .ref x3] σ (.inl (some (.int r.1)), r.2) := by
  refine hb_metX (by decide) (Nat.le_of_ble_eq_true rfl) ?_
  unfold f_L_classInfo at h
  refine hs_aload_n dL_classInfo_0 3 rfl ?_
  refine hs_iconst (v := (0 : Int32)) dL_classInfo_1 (by decide) ?_
  refine hs_aload_n dL_classInfo_2 0 rfl ?_
  refine hs_iload_n dL_classInfo_3 1 rfl ?_
  refine hs_iload_n dL_classInfo_4 2 rfl ?_
  rcases hb_xc_at h with ⟨E1, r1, h1, h⟩ | ⟨v1, r1, h1, h⟩
  · obtain ⟨h1, nf1, hb1⟩ := hb_on_at h1
    by_cases hE0 : E1 = hb_e1
    · rw [if_pos hE0] at h
      subst hE0
      refine hs_callVx (μ' := mX8_classInfo) (mc := 1) (ms := 6) (rc := 0) (rs := 0) (E := hb_e1) (As := [.int x1, .int x2]) (rest := [.int (0 : Int32), .ref x3]) (ci := 8) (k := 4) (ln := 2) dL_classInfo_5 lmL_19 okX8_classInfo rfl (by decide) rfl (Nat.le_of_ble_eq_true rfl) rfl hb1 (c_X8_classInfo hl h1) [] ⟨0, 10, 13, 13⟩ [⟨0, 10, 17, 15⟩] rfl (fun y hy => by cases hy) rfl (by decide) clL_13 (by decide +kernel) (by decide) (Or.inl ⟨dL_classInfo_13, rfl⟩) ?_
      refine hs_iconst (v := (1 : Int32)) dL_classInfo_15 (by decide) ?_
      obtain rfl := Option.some.inj h
      exact hs_ireturn dL_classInfo_16 rfl (by rfl) (fun h => by cases h)
    rw [if_neg hE0] at h
    by_cases hE1 : E1 = hb_e2
    · rw [if_pos hE1] at h
      subst hE1
      refine hs_callVx (μ' := mX8_classInfo) (mc := 1) (ms := 6) (rc := 0) (rs := 0) (E := hb_e2) (As := [.int x1, .int x2]) (rest := [.int (0 : Int32), .ref x3]) (ci := 8) (k := 4) (ln := 2) dL_classInfo_5 lmL_19 okX8_classInfo rfl (by decide) rfl (Nat.le_of_ble_eq_true rfl) rfl hb1 (c_X8_classInfo hl h1) [⟨0, 10, 13, 13⟩] ⟨0, 10, 17, 15⟩ [] rfl (by simp only [List.mem_cons, List.not_mem_nil, or_false, forall_eq_or_imp, forall_eq]; exact Or.inr ⟨by decide, hb_e1, clL_13, by decide +kernel⟩) rfl (by decide) clL_15 (by decide +kernel) (by decide) (Or.inl ⟨dL_classInfo_17, rfl⟩) ?_
      refine hs_iconst (v := (2 : Int32)) dL_classInfo_19 (by decide) ?_
      obtain rfl := Option.some.inj h
      exact hs_ireturn dL_classInfo_20 rfl (by rfl) (fun h => by cases h)
    rw [if_neg hE1] at h
    cases h
  obtain ⟨h1, nf1, hb1⟩ := hb_on_at h1
  refine hs_callVi (μ' := mX8_classInfo) (mc := 1) (ms := 6) (rc := 0) (rs := 0) (As := [.int x1, .int x2]) (rest := [.int (0 : Int32), .ref x3]) (ci := 8) dL_classInfo_5 lmL_19 okX8_classInfo rfl (by decide) rfl (Nat.le_of_ble_eq_true rfl) rfl hb1 (c_X8_classInfo hl h1) ?_
  refine hs_i2l dL_classInfo_8 ?_
  obtain ⟨r2, h2, h⟩ := hb_bind h
  refine hs_last dL_classInfo_9 h2 ?_
  refine hs_goto (tgt := 21) dL_classInfo_10 (by decide) ?_
  refine hs_iconst (v := (0 : Int32)) dL_classInfo_21 (by decide) ?_
  obtain rfl := Option.some.inj h
  exact hs_ireturn dL_classInfo_22 rfl (by rfl) (fun _ => rfl)
def mL_isSubclass : hb_Y := (yL_isSubclass, cL_isSubclass, 5, (some .int), [(0, 17, 20, 13)], false)
set_option maxHeartbeats 4000000 in
set_option maxRecDepth 20000 in
theorem c_L_isSubclass_b16 {G : hb_G} {l : Launch} (hl : l.stackTraces = false)  {s0 : Nat} {s1 : Int32} {s2 : Int64} {σ : hb_M} {r : (Int32 × hb_M)} (h : f_L_isSubclass_b16 s0 s1 s2 σ = some r) : hb_T G l true mL_isSubclass 3 0 0 16 [] [.long s2, .int s1, .ref s0] σ (.inl (some (.int r.1)), r.2) := by
  unfold f_L_isSubclass_b16 at h
  obtain ⟨r1, h1, h⟩ := hb_bind h
  refine hs_last dL_isSubclass_16 h1 ?_
  refine hs_goto (tgt := 24) dL_isSubclass_17 (by decide) ?_
  refine hs_iconst (v := (0 : Int32)) dL_isSubclass_24 (by decide) ?_
  obtain rfl := Option.some.inj h
  exact hs_ireturn dL_isSubclass_25 rfl (by rfl) (fun _ => rfl)
set_option maxHeartbeats 4000000 in
set_option maxRecDepth 20000 in
theorem c_L_isSubclass {G : hb_G} {l : Launch} (hl : l.stackTraces = false) {x0 : Nat} {x1 : Int32} {x2 : Int32} {x3 : Nat} {σ : hb_M} {r : (Int32 × hb_M)} (h : f_L_isSubclass x0 x1 x2 x3 σ = some r) : hb_CallX G l true 3 1 6 mL_isSubclass [.ref x0, .int x1, .int x2, .ref x3] σ (.inl (some (.int r.1)), r.2) := by
  refine hb_metX (by decide) (Nat.le_of_ble_eq_true rfl) ?_
  unfold f_L_isSubclass at h
  refine hs_aload_n dL_isSubclass_0 3 rfl ?_
  refine hs_iconst (v := (0 : Int32)) dL_isSubclass_1 (by decide) ?_
  refine hs_aload_n dL_isSubclass_2 0 rfl ?_
  refine hs_iload_n dL_isSubclass_3 1 rfl ?_
  refine hs_iload_n dL_isSubclass_4 2 rfl ?_
  rcases hb_xc_at h with ⟨E1, r1, h1, h⟩ | ⟨v1, r1, h1, h⟩
  · obtain ⟨h1, nf1, hb1⟩ := hb_on_at h1
    by_cases hE0 : E1 = hb_e1
    · rw [if_pos hE0] at h
      subst hE0
      refine hs_callVx (μ' := mX8_isSubclass) (mc := 1) (ms := 6) (rc := 0) (rs := 0) (E := hb_e1) (As := [.int x1, .int x2]) (rest := [.int (0 : Int32), .ref x3]) (ci := 8) (k := 4) (ln := 2) dL_isSubclass_5 lmL_23 okX8_isSubclass rfl (by decide) rfl (Nat.le_of_ble_eq_true rfl) rfl hb1 (c_X8_isSubclass hl h1) [] ⟨0, 17, 20, 13⟩ [] rfl (fun y hy => by cases hy) rfl (by decide) clL_13 (by decide +kernel) (by decide) (Or.inl ⟨dL_isSubclass_20, rfl⟩) ?_
      refine hs_iconst (v := (1 : Int32)) dL_isSubclass_22 (by decide) ?_
      obtain rfl := Option.some.inj h
      exact hs_ireturn dL_isSubclass_23 rfl (by rfl) (fun h => by cases h)
    rw [if_neg hE0] at h
    cases h
  obtain ⟨h1, nf1, hb1⟩ := hb_on_at h1
  refine hs_callVi (μ' := mX8_isSubclass) (mc := 1) (ms := 6) (rc := 0) (rs := 0) (As := [.int x1, .int x2]) (rest := [.int (0 : Int32), .ref x3]) (ci := 8) dL_isSubclass_5 lmL_23 okX8_isSubclass rfl (by decide) rfl (Nat.le_of_ble_eq_true rfl) rfl hb1 (c_X8_isSubclass hl h1) ?_
  refine hs_if_eq (tgt := 15) dL_isSubclass_8 (by decide) (fun hc2 => ?_) (fun hc2 => ?_)
  · rw [if_pos hc2] at h
    refine hs_lconst (v := (0 : Int64)) dL_isSubclass_15 (by decide) ?_
    refine hs_sub (lv' := []) [] rfl ?_
    exact c_L_isSubclass_b16 hl h
  · rw [if_neg hc2] at h
    refine hs_lconst (v := (1 : Int64)) dL_isSubclass_11 (by decide) ?_
    refine hs_goto (tgt := 16) dL_isSubclass_12 (by decide) ?_
    refine hs_sub (lv' := []) [] rfl ?_
    exact c_L_isSubclass_b16 hl h
def mL_newInstance : hb_Y := (yL_newInstance, cL_newInstance, 4, (some .int), [(0, 9, 12, 13), (0, 9, 15, 17)], false)
set_option maxHeartbeats 4000000 in
set_option maxRecDepth 20000 in
theorem c_L_newInstance {G : hb_G} {l : Launch} (hl : l.stackTraces = false) {x0 : Nat} {x1 : Int32} {x2 : Nat} {σ : hb_M} {r : (Int32 × hb_M)} (h : f_L_newInstance x0 x1 x2 σ = some r) : hb_CallX G l true 6 1 6 mL_newInstance [.ref x0, .int x1, .ref x2] σ (.inl (some (.int r.1)), r.2) := by
  refine hb_metX (by decide) (Nat.le_of_ble_eq_true rfl) ?_
  unfold f_L_newInstance at h
  refine hs_aload_n dL_newInstance_0 2 rfl ?_
  refine hs_iconst (v := (0 : Int32)) dL_newInstance_1 (by decide) ?_
  refine hs_aload_n dL_newInstance_2 0 rfl ?_
  refine hs_iload_n dL_newInstance_3 1 rfl ?_
  rcases hb_xc_at h with ⟨E1, r1, h1, h⟩ | ⟨v1, r1, h1, h⟩
  · obtain ⟨h1, nf1, hb1⟩ := hb_on_at h1
    by_cases hE0 : E1 = hb_e1
    · rw [if_pos hE0] at h
      subst hE0
      refine hs_callVx (μ' := mX8_newInstance) (mc := 1) (ms := 6) (rc := 0) (rs := 0) (E := hb_e1) (As := [.int x1]) (rest := [.int (0 : Int32), .ref x2]) (ci := 8) (k := 3) (ln := 1) dL_newInstance_4 lmL_27 okX8_newInstance rfl (by decide) rfl (Nat.le_of_ble_eq_true rfl) rfl hb1 (c_X8_newInstance hl h1) [] ⟨0, 9, 12, 13⟩ [⟨0, 9, 15, 17⟩] rfl (fun y hy => by cases hy) rfl (by decide) clL_13 (by decide +kernel) (by decide) (Or.inr ⟨3, rfl, dL_newInstance_12, rfl⟩) ?_
      refine hs_iconst (v := (1 : Int32)) dL_newInstance_13 (by decide) ?_
      obtain rfl := Option.some.inj h
      exact hs_ireturn dL_newInstance_14 rfl (by rfl) (fun h => by cases h)
    rw [if_neg hE0] at h
    by_cases hE1 : E1 = hb_e3
    · rw [if_pos hE1] at h
      subst hE1
      refine hs_callVx (μ' := mX8_newInstance) (mc := 1) (ms := 6) (rc := 0) (rs := 0) (E := hb_e3) (As := [.int x1]) (rest := [.int (0 : Int32), .ref x2]) (ci := 8) (k := 3) (ln := 1) dL_newInstance_4 lmL_27 okX8_newInstance rfl (by decide) rfl (Nat.le_of_ble_eq_true rfl) rfl hb1 (c_X8_newInstance hl h1) [⟨0, 9, 12, 13⟩] ⟨0, 9, 15, 17⟩ [] rfl (by simp only [List.mem_cons, List.not_mem_nil, or_false, forall_eq_or_imp, forall_eq]; exact Or.inr ⟨by decide, hb_e1, clL_13, by decide +kernel⟩) rfl (by decide) clL_17 (by decide +kernel) (by decide) (Or.inr ⟨3, rfl, dL_newInstance_15, rfl⟩) ?_
      refine hs_iconst (v := (2 : Int32)) dL_newInstance_16 (by decide) ?_
      obtain rfl := Option.some.inj h
      exact hs_ireturn dL_newInstance_17 rfl (by rfl) (fun h => by cases h)
    rw [if_neg hE1] at h
    cases h
  obtain ⟨h1, nf1, hb1⟩ := hb_on_at h1
  refine hs_callVi (μ' := mX8_newInstance) (mc := 1) (ms := 6) (rc := 0) (rs := 0) (As := [.int x1]) (rest := [.int (0 : Int32), .ref x2]) (ci := 8) dL_newInstance_4 lmL_27 okX8_newInstance rfl (by decide) rfl (Nat.le_of_ble_eq_true rfl) rfl hb1 (c_X8_newInstance hl h1) ?_
  refine hs_i2l dL_newInstance_7 ?_
  obtain ⟨r2, h2, h⟩ := hb_bind h
  refine hs_last dL_newInstance_8 h2 ?_
  refine hs_goto (tgt := 18) dL_newInstance_9 (by decide) ?_
  refine hs_iconst (v := (0 : Int32)) dL_newInstance_18 (by decide) ?_
  obtain rfl := Option.some.inj h
  exact hs_ireturn dL_newInstance_19 rfl (by rfl) (fun _ => rfl)
def mL_newArray : hb_Y := (yL_newArray, cL_newArray, 4, (some .int), [(0, 9, 12, 15), (0, 9, 15, 17)], false)
set_option maxHeartbeats 4000000 in
set_option maxRecDepth 20000 in
theorem c_L_newArray {G : hb_G} {l : Launch} (hl : l.stackTraces = false) {x0 : Nat} {x1 : Int32} {x2 : Nat} {σ : hb_M} {r : (Int32 × hb_M)} (h : f_L_newArray x0 x1 x2 σ = some r) : hb_CallX G l true 6 1 6 mL_newArray [.ref x0, .int x1, .ref x2] σ (.inl (some (.int r.1)), r.2) := by
  refine hb_metX (by decide) (Nat.le_of_ble_eq_true rfl) ?_
  unfold f_L_newArray at h
  refine hs_aload_n dL_newArray_0 2 rfl ?_
  refine hs_iconst (v := (0 : Int32)) dL_newArray_1 (by decide) ?_
  refine hs_aload_n dL_newArray_2 0 rfl ?_
  refine hs_iload_n dL_newArray_3 1 rfl ?_
  rcases hb_xc_at h with ⟨E1, r1, h1, h⟩ | ⟨v1, r1, h1, h⟩
  · obtain ⟨h1, nf1, hb1⟩ := hb_on_at h1
    by_cases hE0 : E1 = hb_e2
    · rw [if_pos hE0] at h
      subst hE0
      refine hs_callVx (μ' := mX8_newArray) (mc := 1) (ms := 6) (rc := 0) (rs := 0) (E := hb_e2) (As := [.int x1]) (rest := [.int (0 : Int32), .ref x2]) (ci := 8) (k := 3) (ln := 1) dL_newArray_4 lmL_31 okX8_newArray rfl (by decide) rfl (Nat.le_of_ble_eq_true rfl) rfl hb1 (c_X8_newArray hl h1) [] ⟨0, 9, 12, 15⟩ [⟨0, 9, 15, 17⟩] rfl (fun y hy => by cases hy) rfl (by decide) clL_15 (by decide +kernel) (by decide) (Or.inr ⟨3, rfl, dL_newArray_12, rfl⟩) ?_
      refine hs_iconst (v := (1 : Int32)) dL_newArray_13 (by decide) ?_
      obtain rfl := Option.some.inj h
      exact hs_ireturn dL_newArray_14 rfl (by rfl) (fun h => by cases h)
    rw [if_neg hE0] at h
    by_cases hE1 : E1 = hb_e3
    · rw [if_pos hE1] at h
      subst hE1
      refine hs_callVx (μ' := mX8_newArray) (mc := 1) (ms := 6) (rc := 0) (rs := 0) (E := hb_e3) (As := [.int x1]) (rest := [.int (0 : Int32), .ref x2]) (ci := 8) (k := 3) (ln := 1) dL_newArray_4 lmL_31 okX8_newArray rfl (by decide) rfl (Nat.le_of_ble_eq_true rfl) rfl hb1 (c_X8_newArray hl h1) [⟨0, 9, 12, 15⟩] ⟨0, 9, 15, 17⟩ [] rfl (by simp only [List.mem_cons, List.not_mem_nil, or_false, forall_eq_or_imp, forall_eq]; exact Or.inr ⟨by decide, hb_e2, clL_15, by decide +kernel⟩) rfl (by decide) clL_17 (by decide +kernel) (by decide) (Or.inr ⟨3, rfl, dL_newArray_15, rfl⟩) ?_
      refine hs_iconst (v := (2 : Int32)) dL_newArray_16 (by decide) ?_
      obtain rfl := Option.some.inj h
      exact hs_ireturn dL_newArray_17 rfl (by rfl) (fun h => by cases h)
    rw [if_neg hE1] at h
    cases h
  obtain ⟨h1, nf1, hb1⟩ := hb_on_at h1
  refine hs_callVi (μ' := mX8_newArray) (mc := 1) (ms := 6) (rc := 0) (rs := 0) (As := [.int x1]) (rest := [.int (0 : Int32), .ref x2]) (ci := 8) dL_newArray_4 lmL_31 okX8_newArray rfl (by decide) rfl (Nat.le_of_ble_eq_true rfl) rfl hb1 (c_X8_newArray hl h1) ?_
  refine hs_i2l dL_newArray_7 ?_
  obtain ⟨r2, h2, h⟩ := hb_bind h
  refine hs_last dL_newArray_8 h2 ?_
  refine hs_goto (tgt := 18) dL_newArray_9 (by decide) ?_
  refine hs_iconst (v := (0 : Int32)) dL_newArray_18 (by decide) ?_
  obtain rfl := Option.some.inj h
  exact hs_ireturn dL_newArray_19 rfl (by rfl) (fun _ => rfl)
def mL_newHolder : hb_Y := (yL_newHolder, cL_newHolder, 3, (some .int), [(0, 8, 11, 17)], false)
set_option maxHeartbeats 4000000 in
set_option maxRecDepth 20000 in
theorem c_L_newHolder {G : hb_G} {l : Launch} (hl : l.stackTraces = false) {x0 : Nat} {x1 : Nat} {σ : hb_M} {r : (Int32 × hb_M)} (h : f_L_newHolder x0 x1 σ = some r) : hb_CallX G l true 5 1 6 mL_newHolder [.ref x0, .ref x1] σ (.inl (some (.int r.1)), r.2) := by
  refine hb_metX (by decide) (Nat.le_of_ble_eq_true rfl) ?_
  unfold f_L_newHolder at h
  refine hs_aload_n dL_newHolder_0 1 rfl ?_
  refine hs_iconst (v := (0 : Int32)) dL_newHolder_1 (by decide) ?_
  refine hs_aload_n dL_newHolder_2 0 rfl ?_
  rcases hb_xc_at h with ⟨E1, r1, h1, h⟩ | ⟨v1, r1, h1, h⟩
  · obtain ⟨h1, nf1, hb1⟩ := hb_on_at h1
    by_cases hE0 : E1 = hb_e3
    · rw [if_pos hE0] at h
      subst hE0
      refine hs_callVx (μ' := mX8_newHolder) (mc := 1) (ms := 6) (rc := 0) (rs := 0) (E := hb_e3) (As := []) (rest := [.int (0 : Int32), .ref x1]) (ci := 8) (k := 2) (ln := 1) dL_newHolder_3 lmL_34 okX8_newHolder rfl (by decide) rfl (Nat.le_of_ble_eq_true rfl) rfl hb1 (c_X8_newHolder hl h1) [] ⟨0, 8, 11, 17⟩ [] rfl (fun y hy => by cases hy) rfl (by decide) clL_17 (by decide +kernel) (by decide) (Or.inr ⟨2, rfl, dL_newHolder_11, rfl⟩) ?_
      refine hs_iconst (v := (1 : Int32)) dL_newHolder_12 (by decide) ?_
      obtain rfl := Option.some.inj h
      exact hs_ireturn dL_newHolder_13 rfl (by rfl) (fun h => by cases h)
    rw [if_neg hE0] at h
    cases h
  obtain ⟨h1, nf1, hb1⟩ := hb_on_at h1
  refine hs_callVi (μ' := mX8_newHolder) (mc := 1) (ms := 6) (rc := 0) (rs := 0) (As := []) (rest := [.int (0 : Int32), .ref x1]) (ci := 8) dL_newHolder_3 lmL_34 okX8_newHolder rfl (by decide) rfl (Nat.le_of_ble_eq_true rfl) rfl hb1 (c_X8_newHolder hl h1) ?_
  refine hs_i2l dL_newHolder_6 ?_
  obtain ⟨r2, h2, h⟩ := hb_bind h
  refine hs_last dL_newHolder_7 h2 ?_
  refine hs_goto (tgt := 14) dL_newHolder_8 (by decide) ?_
  refine hs_iconst (v := (0 : Int32)) dL_newHolder_14 (by decide) ?_
  obtain rfl := Option.some.inj h
  exact hs_ireturn dL_newHolder_15 rfl (by rfl) (fun _ => rfl)
def mL_set : hb_Y := (yL_set, cL_set, 6, (some .int), [(0, 12, 15, 13)], false)
set_option maxHeartbeats 4000000 in
set_option maxRecDepth 20000 in
theorem c_L_set {G : hb_G} {l : Launch} (hl : l.stackTraces = false) {x0 : Nat} {x1 : Int32} {x2 : Int32} {x3 : Int32} {x4 : Nat} {σ : hb_M} {r : (Int32 × hb_M)} (h : f_L_set x0 x1 x2 x3 x4 σ = some r) : hb_CallX G l true 4 1 6 mL_set [.ref x0, .int x1, .int x2, .int x3, .ref x4] σ (.inl (some (.int r.1)), r.2) := by
  refine hb_metX (by decide) (Nat.le_of_ble_eq_true rfl) ?_
  unfold f_L_set at h
  refine hs_aload dL_set_0 4 rfl ?_
  refine hs_iconst (v := (0 : Int32)) dL_set_2 (by decide) ?_
  refine hs_aload_n dL_set_3 0 rfl ?_
  refine hs_iload_n dL_set_4 1 rfl ?_
  refine hs_iload_n dL_set_5 2 rfl ?_
  refine hs_iload_n dL_set_6 3 rfl ?_
  rcases hb_xc_at h with ⟨E1, r1, h1, h⟩ | ⟨v1, r1, h1, h⟩
  · obtain ⟨h1, nf1, hb1⟩ := hb_on_at h1
    by_cases hE0 : E1 = hb_e1
    · rw [if_pos hE0] at h
      subst hE0
      refine hs_callVx (μ' := mX8_set) (mc := 1) (ms := 6) (rc := 0) (rs := 0) (E := hb_e1) (As := [.int x1, .int x2, .int x3]) (rest := [.int (0 : Int32), .ref x4]) (ci := 8) (k := 5) (ln := 2) dL_set_7 lmL_38 okX8_set rfl (by decide) rfl (Nat.le_of_ble_eq_true rfl) rfl hb1 (c_X8_set hl h1) [] ⟨0, 12, 15, 13⟩ [] rfl (fun y hy => by cases hy) rfl (by decide) clL_13 (by decide +kernel) (by decide) (Or.inl ⟨dL_set_15, rfl⟩) ?_
      refine hs_iconst (v := (1 : Int32)) dL_set_17 (by decide) ?_
      obtain rfl := Option.some.inj h
      exact hs_ireturn dL_set_18 rfl (by rfl) (fun h => by cases h)
    rw [if_neg hE0] at h
    cases h
  obtain ⟨h1, nf1, hb1⟩ := hb_on_at h1
  refine hs_callVi (μ' := mX8_set) (mc := 1) (ms := 6) (rc := 0) (rs := 0) (As := [.int x1, .int x2, .int x3]) (rest := [.int (0 : Int32), .ref x4]) (ci := 8) dL_set_7 lmL_38 okX8_set rfl (by decide) rfl (Nat.le_of_ble_eq_true rfl) rfl hb1 (c_X8_set hl h1) ?_
  refine hs_i2l dL_set_10 ?_
  obtain ⟨r2, h2, h⟩ := hb_bind h
  refine hs_last dL_set_11 h2 ?_
  refine hs_goto (tgt := 19) dL_set_12 (by decide) ?_
  refine hs_iconst (v := (0 : Int32)) dL_set_19 (by decide) ?_
  obtain rfl := Option.some.inj h
  exact hs_ireturn dL_set_20 rfl (by rfl) (fun _ => rfl)
def mL_get : hb_Y := (yL_get, cL_get, 5, (some .int), [(0, 10, 13, 13)], false)
set_option maxHeartbeats 4000000 in
set_option maxRecDepth 20000 in
theorem c_L_get {G : hb_G} {l : Launch} (hl : l.stackTraces = false) {x0 : Nat} {x1 : Int32} {x2 : Int32} {x3 : Nat} {σ : hb_M} {r : (Int32 × hb_M)} (h : f_L_get x0 x1 x2 x3 σ = some r) : hb_CallX G l true 4 1 6 mL_get [.ref x0, .int x1, .int x2, .ref x3] σ (.inl (some (.int r.1)), r.2) := by
  refine hb_metX (by decide) (Nat.le_of_ble_eq_true rfl) ?_
  unfold f_L_get at h
  refine hs_aload_n dL_get_0 3 rfl ?_
  refine hs_iconst (v := (0 : Int32)) dL_get_1 (by decide) ?_
  refine hs_aload_n dL_get_2 0 rfl ?_
  refine hs_iload_n dL_get_3 1 rfl ?_
  refine hs_iload_n dL_get_4 2 rfl ?_
  rcases hb_xc_at h with ⟨E1, r1, h1, h⟩ | ⟨v1, r1, h1, h⟩
  · obtain ⟨h1, nf1, hb1⟩ := hb_on_at h1
    by_cases hE0 : E1 = hb_e1
    · rw [if_pos hE0] at h
      subst hE0
      refine hs_callVx (μ' := mX8_get) (mc := 1) (ms := 6) (rc := 0) (rs := 0) (E := hb_e1) (As := [.int x1, .int x2]) (rest := [.int (0 : Int32), .ref x3]) (ci := 8) (k := 4) (ln := 2) dL_get_5 lmL_41 okX8_get rfl (by decide) rfl (Nat.le_of_ble_eq_true rfl) rfl hb1 (c_X8_get hl h1) [] ⟨0, 10, 13, 13⟩ [] rfl (fun y hy => by cases hy) rfl (by decide) clL_13 (by decide +kernel) (by decide) (Or.inl ⟨dL_get_13, rfl⟩) ?_
      refine hs_iconst (v := (1 : Int32)) dL_get_15 (by decide) ?_
      obtain rfl := Option.some.inj h
      exact hs_ireturn dL_get_16 rfl (by rfl) (fun h => by cases h)
    rw [if_neg hE0] at h
    cases h
  obtain ⟨h1, nf1, hb1⟩ := hb_on_at h1
  refine hs_callVi (μ' := mX8_get) (mc := 1) (ms := 6) (rc := 0) (rs := 0) (As := [.int x1, .int x2]) (rest := [.int (0 : Int32), .ref x3]) (ci := 8) dL_get_5 lmL_41 okX8_get rfl (by decide) rfl (Nat.le_of_ble_eq_true rfl) rfl hb1 (c_X8_get hl h1) ?_
  refine hs_i2l dL_get_8 ?_
  obtain ⟨r2, h2, h⟩ := hb_bind h
  refine hs_last dL_get_9 h2 ?_
  refine hs_goto (tgt := 17) dL_get_10 (by decide) ?_
  refine hs_iconst (v := (0 : Int32)) dL_get_17 (by decide) ?_
  obtain rfl := Option.some.inj h
  exact hs_ireturn dL_get_18 rfl (by rfl) (fun _ => rfl)
def mL_resizeArray : hb_Y := (yL_resizeArray, cL_resizeArray, 5, (some .int), [(0, 10, 13, 13), (0, 10, 17, 15), (0, 10, 21, 17)], false)
set_option maxHeartbeats 4000000 in
set_option maxRecDepth 20000 in
theorem c_L_resizeArray {G : hb_G} {l : Launch} (hl : l.stackTraces = false) {x0 : Nat} {x1 : Int32} {x2 : Int32} {x3 : Nat} {σ : hb_M} {r : (Int32 × hb_M)} (h : f_L_resizeArray x0 x1 x2 x3 σ = some r) : hb_CallX G l true 4 1 6 mL_resizeArray [.ref x0, .int x1, .int x2, .ref x3] σ (.inl (some (.int r.1)), r.2) := by
  refine hb_metX (by decide) (Nat.le_of_ble_eq_true rfl) ?_
  unfold f_L_resizeArray at h
  refine hs_aload_n dL_resizeArray_0 3 rfl ?_
  refine hs_iconst (v := (0 : Int32)) dL_resizeArray_1 (by decide) ?_
  refine hs_aload_n dL_resizeArray_2 0 rfl ?_
  refine hs_iload_n dL_resizeArray_3 1 rfl ?_
  refine hs_iload_n dL_resizeArray_4 2 rfl ?_
  rcases hb_xc_at h with ⟨E1, r1, h1, h⟩ | ⟨v1, r1, h1, h⟩
  · obtain ⟨h1, nf1, hb1⟩ := hb_on_at h1
    by_cases hE0 : E1 = hb_e1
    · rw [if_pos hE0] at h
      subst hE0
      refine hs_callVx (μ' := mX8_resizeArray) (mc := 1) (ms := 6) (rc := 0) (rs := 0) (E := hb_e1) (As := [.int x1, .int x2]) (rest := [.int (0 : Int32), .ref x3]) (ci := 8) (k := 4) (ln := 2) dL_resizeArray_5 lmL_44 okX8_resizeArray rfl (by decide) rfl (Nat.le_of_ble_eq_true rfl) rfl hb1 (c_X8_resizeArray hl h1) [] ⟨0, 10, 13, 13⟩ [⟨0, 10, 17, 15⟩, ⟨0, 10, 21, 17⟩] rfl (fun y hy => by cases hy) rfl (by decide) clL_13 (by decide +kernel) (by decide) (Or.inl ⟨dL_resizeArray_13, rfl⟩) ?_
      refine hs_iconst (v := (1 : Int32)) dL_resizeArray_15 (by decide) ?_
      obtain rfl := Option.some.inj h
      exact hs_ireturn dL_resizeArray_16 rfl (by rfl) (fun h => by cases h)
    rw [if_neg hE0] at h
    by_cases hE1 : E1 = hb_e2
    · rw [if_pos hE1] at h
      subst hE1
      refine hs_callVx (μ' := mX8_resizeArray) (mc := 1) (ms := 6) (rc := 0) (rs := 0) (E := hb_e2) (As := [.int x1, .int x2]) (rest := [.int (0 : Int32), .ref x3]) (ci := 8) (k := 4) (ln := 2) dL_resizeArray_5 lmL_44 okX8_resizeArray rfl (by decide) rfl (Nat.le_of_ble_eq_true rfl) rfl hb1 (c_X8_resizeArray hl h1) [⟨0, 10, 13, 13⟩] ⟨0, 10, 17, 15⟩ [⟨0, 10, 21, 17⟩] rfl (by simp only [List.mem_cons, List.not_mem_nil, or_false, forall_eq_or_imp, forall_eq]; exact Or.inr ⟨by decide, hb_e1, clL_13, by decide +kernel⟩) rfl (by decide) clL_15 (by decide +kernel) (by decide) (Or.inl ⟨dL_resizeArray_17, rfl⟩) ?_
      refine hs_iconst (v := (2 : Int32)) dL_resizeArray_19 (by decide) ?_
      obtain rfl := Option.some.inj h
      exact hs_ireturn dL_resizeArray_20 rfl (by rfl) (fun h => by cases h)
    rw [if_neg hE1] at h
    by_cases hE2 : E1 = hb_e3
    · rw [if_pos hE2] at h
      subst hE2
      refine hs_callVx (μ' := mX8_resizeArray) (mc := 1) (ms := 6) (rc := 0) (rs := 0) (E := hb_e3) (As := [.int x1, .int x2]) (rest := [.int (0 : Int32), .ref x3]) (ci := 8) (k := 4) (ln := 2) dL_resizeArray_5 lmL_44 okX8_resizeArray rfl (by decide) rfl (Nat.le_of_ble_eq_true rfl) rfl hb1 (c_X8_resizeArray hl h1) [⟨0, 10, 13, 13⟩, ⟨0, 10, 17, 15⟩] ⟨0, 10, 21, 17⟩ [] rfl (by simp only [List.mem_cons, List.not_mem_nil, or_false, forall_eq_or_imp, forall_eq]; exact ⟨Or.inr ⟨by decide, hb_e1, clL_13, by decide +kernel⟩, Or.inr ⟨by decide, hb_e2, clL_15, by decide +kernel⟩⟩) rfl (by decide) clL_17 (by decide +kernel) (by decide) (Or.inl ⟨dL_resizeArray_21, rfl⟩) ?_
      refine hs_iconst (v := (3 : Int32)) dL_resizeArray_23 (by decide) ?_
      obtain rfl := Option.some.inj h
      exact hs_ireturn dL_resizeArray_24 rfl (by rfl) (fun h => by cases h)
    rw [if_neg hE2] at h
    cases h
  obtain ⟨h1, nf1, hb1⟩ := hb_on_at h1
  refine hs_callVi (μ' := mX8_resizeArray) (mc := 1) (ms := 6) (rc := 0) (rs := 0) (As := [.int x1, .int x2]) (rest := [.int (0 : Int32), .ref x3]) (ci := 8) dL_resizeArray_5 lmL_44 okX8_resizeArray rfl (by decide) rfl (Nat.le_of_ble_eq_true rfl) rfl hb1 (c_X8_resizeArray hl h1) ?_
  refine hs_i2l dL_resizeArray_8 ?_
  obtain ⟨r2, h2, h⟩ := hb_bind h
  refine hs_last dL_resizeArray_9 h2 ?_
  refine hs_goto (tgt := 25) dL_resizeArray_10 (by decide) ?_
  refine hs_iconst (v := (0 : Int32)) dL_resizeArray_25 (by decide) ?_
  obtain rfl := Option.some.inj h
  exact hs_ireturn dL_resizeArray_26 rfl (by rfl) (fun _ => rfl)
def mL_referent : hb_Y := (yL_referent, cL_referent, 4, (some .int), [(0, 9, 12, 13), (0, 9, 15, 17)], false)
set_option maxHeartbeats 4000000 in
set_option maxRecDepth 20000 in
theorem c_L_referent {G : hb_G} {l : Launch} (hl : l.stackTraces = false) {x0 : Nat} {x1 : Int32} {x2 : Nat} {σ : hb_M} {r : (Int32 × hb_M)} (h : f_L_referent x0 x1 x2 σ = some r) : hb_CallX G l true 4 2 12 mL_referent [.ref x0, .int x1, .ref x2] σ (.inl (some (.int r.1)), r.2) := by
  refine hb_metX (by decide) (Nat.le_of_ble_eq_true rfl) ?_
  unfold f_L_referent at h
  refine hs_aload_n dL_referent_0 2 rfl ?_
  refine hs_iconst (v := (0 : Int32)) dL_referent_1 (by decide) ?_
  refine hs_aload_n dL_referent_2 0 rfl ?_
  refine hs_iload_n dL_referent_3 1 rfl ?_
  rcases hb_xc_at h with ⟨E1, r1, h1, h⟩ | ⟨v1, r1, h1, h⟩
  · obtain ⟨h1, nf1, hb1⟩ := hb_on_at h1
    by_cases hE0 : E1 = hb_e1
    · rw [if_pos hE0] at h
      subst hE0
      refine hs_callVx (μ' := mX8_referent) (mc := 2) (ms := 12) (rc := 0) (rs := 0) (E := hb_e1) (As := [.int x1]) (rest := [.int (0 : Int32), .ref x2]) (ci := 8) (k := 3) (ln := 1) dL_referent_4 lmL_47 okX8_referent rfl (by decide) rfl (Nat.le_of_ble_eq_true rfl) rfl hb1 (c_X8_referent hl h1) [] ⟨0, 9, 12, 13⟩ [⟨0, 9, 15, 17⟩] rfl (fun y hy => by cases hy) rfl (by decide) clL_13 (by decide +kernel) (by decide) (Or.inr ⟨3, rfl, dL_referent_12, rfl⟩) ?_
      refine hs_iconst (v := (1 : Int32)) dL_referent_13 (by decide) ?_
      obtain rfl := Option.some.inj h
      exact hs_ireturn dL_referent_14 rfl (by rfl) (fun h => by cases h)
    rw [if_neg hE0] at h
    by_cases hE1 : E1 = hb_e3
    · rw [if_pos hE1] at h
      subst hE1
      refine hs_callVx (μ' := mX8_referent) (mc := 2) (ms := 12) (rc := 0) (rs := 0) (E := hb_e3) (As := [.int x1]) (rest := [.int (0 : Int32), .ref x2]) (ci := 8) (k := 3) (ln := 1) dL_referent_4 lmL_47 okX8_referent rfl (by decide) rfl (Nat.le_of_ble_eq_true rfl) rfl hb1 (c_X8_referent hl h1) [⟨0, 9, 12, 13⟩] ⟨0, 9, 15, 17⟩ [] rfl (by simp only [List.mem_cons, List.not_mem_nil, or_false, forall_eq_or_imp, forall_eq]; exact Or.inr ⟨by decide, hb_e1, clL_13, by decide +kernel⟩) rfl (by decide) clL_17 (by decide +kernel) (by decide) (Or.inr ⟨3, rfl, dL_referent_15, rfl⟩) ?_
      refine hs_iconst (v := (2 : Int32)) dL_referent_16 (by decide) ?_
      obtain rfl := Option.some.inj h
      exact hs_ireturn dL_referent_17 rfl (by rfl) (fun h => by cases h)
    rw [if_neg hE1] at h
    cases h
  obtain ⟨h1, nf1, hb1⟩ := hb_on_at h1
  refine hs_callVi (μ' := mX8_referent) (mc := 2) (ms := 12) (rc := 0) (rs := 0) (As := [.int x1]) (rest := [.int (0 : Int32), .ref x2]) (ci := 8) dL_referent_4 lmL_47 okX8_referent rfl (by decide) rfl (Nat.le_of_ble_eq_true rfl) rfl hb1 (c_X8_referent hl h1) ?_
  refine hs_i2l dL_referent_7 ?_
  obtain ⟨r2, h2, h⟩ := hb_bind h
  refine hs_last dL_referent_8 h2 ?_
  refine hs_goto (tgt := 18) dL_referent_9 (by decide) ?_
  refine hs_iconst (v := (0 : Int32)) dL_referent_18 (by decide) ?_
  obtain rfl := Option.some.inj h
  exact hs_ireturn dL_referent_19 rfl (by rfl) (fun _ => rfl)
def mL_addRoot : hb_Y := (yL_addRoot, cL_addRoot, 5, (some .int), [(0, 10, 13, 13), (0, 10, 17, 15)], false)
set_option maxHeartbeats 4000000 in
set_option maxRecDepth 20000 in
theorem c_L_addRoot {G : hb_G} {l : Launch} (hl : l.stackTraces = false) {x0 : Nat} {x1 : Int32} {x2 : Int32} {x3 : Nat} {σ : hb_M} {r : (Int32 × hb_M)} (h : f_L_addRoot x0 x1 x2 x3 σ = some r) : hb_CallX G l true 4 1 6 mL_addRoot [.ref x0, .int x1, .int x2, .ref x3] σ (.inl (some (.int r.1)), r.2) := by
  refine hb_metX (by decide) (Nat.le_of_ble_eq_true rfl) ?_
  unfold f_L_addRoot at h
  refine hs_aload_n dL_addRoot_0 3 rfl ?_
  refine hs_iconst (v := (0 : Int32)) dL_addRoot_1 (by decide) ?_
  refine hs_aload_n dL_addRoot_2 0 rfl ?_
  refine hs_iload_n dL_addRoot_3 1 rfl ?_
  refine hs_iload_n dL_addRoot_4 2 rfl ?_
  rcases hb_xc_at h with ⟨E1, r1, h1, h⟩ | ⟨v1, r1, h1, h⟩
  · obtain ⟨h1, nf1, hb1⟩ := hb_on_at h1
    by_cases hE0 : E1 = hb_e1
    · rw [if_pos hE0] at h
      subst hE0
      refine hs_callVx (μ' := mX8_addRoot) (mc := 1) (ms := 6) (rc := 0) (rs := 0) (E := hb_e1) (As := [.int x1, .int x2]) (rest := [.int (0 : Int32), .ref x3]) (ci := 8) (k := 4) (ln := 2) dL_addRoot_5 lmL_50 okX8_addRoot rfl (by decide) rfl (Nat.le_of_ble_eq_true rfl) rfl hb1 (c_X8_addRoot hl h1) [] ⟨0, 10, 13, 13⟩ [⟨0, 10, 17, 15⟩] rfl (fun y hy => by cases hy) rfl (by decide) clL_13 (by decide +kernel) (by decide) (Or.inl ⟨dL_addRoot_13, rfl⟩) ?_
      refine hs_iconst (v := (1 : Int32)) dL_addRoot_15 (by decide) ?_
      obtain rfl := Option.some.inj h
      exact hs_ireturn dL_addRoot_16 rfl (by rfl) (fun h => by cases h)
    rw [if_neg hE0] at h
    by_cases hE1 : E1 = hb_e2
    · rw [if_pos hE1] at h
      subst hE1
      refine hs_callVx (μ' := mX8_addRoot) (mc := 1) (ms := 6) (rc := 0) (rs := 0) (E := hb_e2) (As := [.int x1, .int x2]) (rest := [.int (0 : Int32), .ref x3]) (ci := 8) (k := 4) (ln := 2) dL_addRoot_5 lmL_50 okX8_addRoot rfl (by decide) rfl (Nat.le_of_ble_eq_true rfl) rfl hb1 (c_X8_addRoot hl h1) [⟨0, 10, 13, 13⟩] ⟨0, 10, 17, 15⟩ [] rfl (by simp only [List.mem_cons, List.not_mem_nil, or_false, forall_eq_or_imp, forall_eq]; exact Or.inr ⟨by decide, hb_e1, clL_13, by decide +kernel⟩) rfl (by decide) clL_15 (by decide +kernel) (by decide) (Or.inl ⟨dL_addRoot_17, rfl⟩) ?_
      refine hs_iconst (v := (2 : Int32)) dL_addRoot_19 (by decide) ?_
      obtain rfl := Option.some.inj h
      exact hs_ireturn dL_addRoot_20 rfl (by rfl) (fun h => by cases h)
    rw [if_neg hE1] at h
    cases h
  obtain ⟨h1, nf1, hb1⟩ := hb_on_at h1
  refine hs_callVi (μ' := mX8_addRoot) (mc := 1) (ms := 6) (rc := 0) (rs := 0) (As := [.int x1, .int x2]) (rest := [.int (0 : Int32), .ref x3]) (ci := 8) dL_addRoot_5 lmL_50 okX8_addRoot rfl (by decide) rfl (Nat.le_of_ble_eq_true rfl) rfl hb1 (c_X8_addRoot hl h1) ?_
  refine hs_i2l dL_addRoot_8 ?_
  obtain ⟨r2, h2, h⟩ := hb_bind h
  refine hs_last dL_addRoot_9 h2 ?_
  refine hs_goto (tgt := 21) dL_addRoot_10 (by decide) ?_
  refine hs_iconst (v := (0 : Int32)) dL_addRoot_21 (by decide) ?_
  obtain rfl := Option.some.inj h
  exact hs_ireturn dL_addRoot_22 rfl (by rfl) (fun _ => rfl)
def mL_removeRoot : hb_Y := (yL_removeRoot, cL_removeRoot, 5, (some .int), [(0, 10, 13, 13), (0, 10, 17, 15), (0, 10, 21, 17)], false)
set_option maxHeartbeats 4000000 in
set_option maxRecDepth 20000 in
theorem c_L_removeRoot {G : hb_G} {l : Launch} (hl : l.stackTraces = false) {x0 : Nat} {x1 : Int32} {x2 : Int32} {x3 : Nat} {σ : hb_M} {r : (Int32 × hb_M)} (h : f_L_removeRoot x0 x1 x2 x3 σ = some r) : hb_CallX G l true 4 1 6 mL_removeRoot [.ref x0, .int x1, .int x2, .ref x3] σ (.inl (some (.int r.1)), r.2) := by
  refine hb_metX (by decide) (Nat.le_of_ble_eq_true rfl) ?_
  unfold f_L_removeRoot at h
  refine hs_aload_n dL_removeRoot_0 3 rfl ?_
  refine hs_iconst (v := (0 : Int32)) dL_removeRoot_1 (by decide) ?_
  refine hs_aload_n dL_removeRoot_2 0 rfl ?_
  refine hs_iload_n dL_removeRoot_3 1 rfl ?_
  refine hs_iload_n dL_removeRoot_4 2 rfl ?_
  rcases hb_xc_at h with ⟨E1, r1, h1, h⟩ | ⟨v1, r1, h1, h⟩
  · obtain ⟨h1, nf1, hb1⟩ := hb_on_at h1
    by_cases hE0 : E1 = hb_e1
    · rw [if_pos hE0] at h
      subst hE0
      refine hs_callVx (μ' := mX8_removeRoot) (mc := 1) (ms := 6) (rc := 0) (rs := 0) (E := hb_e1) (As := [.int x1, .int x2]) (rest := [.int (0 : Int32), .ref x3]) (ci := 8) (k := 4) (ln := 2) dL_removeRoot_5 lmL_53 okX8_removeRoot rfl (by decide) rfl (Nat.le_of_ble_eq_true rfl) rfl hb1 (c_X8_removeRoot hl h1) [] ⟨0, 10, 13, 13⟩ [⟨0, 10, 17, 15⟩, ⟨0, 10, 21, 17⟩] rfl (fun y hy => by cases hy) rfl (by decide) clL_13 (by decide +kernel) (by decide) (Or.inl ⟨dL_removeRoot_13, rfl⟩) ?_
      refine hs_iconst (v := (1 : Int32)) dL_removeRoot_15 (by decide) ?_
      obtain rfl := Option.some.inj h
      exact hs_ireturn dL_removeRoot_16 rfl (by rfl) (fun h => by cases h)
    rw [if_neg hE0] at h
    by_cases hE1 : E1 = hb_e2
    · rw [if_pos hE1] at h
      subst hE1
      refine hs_callVx (μ' := mX8_removeRoot) (mc := 1) (ms := 6) (rc := 0) (rs := 0) (E := hb_e2) (As := [.int x1, .int x2]) (rest := [.int (0 : Int32), .ref x3]) (ci := 8) (k := 4) (ln := 2) dL_removeRoot_5 lmL_53 okX8_removeRoot rfl (by decide) rfl (Nat.le_of_ble_eq_true rfl) rfl hb1 (c_X8_removeRoot hl h1) [⟨0, 10, 13, 13⟩] ⟨0, 10, 17, 15⟩ [⟨0, 10, 21, 17⟩] rfl (by simp only [List.mem_cons, List.not_mem_nil, or_false, forall_eq_or_imp, forall_eq]; exact Or.inr ⟨by decide, hb_e1, clL_13, by decide +kernel⟩) rfl (by decide) clL_15 (by decide +kernel) (by decide) (Or.inl ⟨dL_removeRoot_17, rfl⟩) ?_
      refine hs_iconst (v := (2 : Int32)) dL_removeRoot_19 (by decide) ?_
      obtain rfl := Option.some.inj h
      exact hs_ireturn dL_removeRoot_20 rfl (by rfl) (fun h => by cases h)
    rw [if_neg hE1] at h
    by_cases hE2 : E1 = hb_e3
    · rw [if_pos hE2] at h
      subst hE2
      refine hs_callVx (μ' := mX8_removeRoot) (mc := 1) (ms := 6) (rc := 0) (rs := 0) (E := hb_e3) (As := [.int x1, .int x2]) (rest := [.int (0 : Int32), .ref x3]) (ci := 8) (k := 4) (ln := 2) dL_removeRoot_5 lmL_53 okX8_removeRoot rfl (by decide) rfl (Nat.le_of_ble_eq_true rfl) rfl hb1 (c_X8_removeRoot hl h1) [⟨0, 10, 13, 13⟩, ⟨0, 10, 17, 15⟩] ⟨0, 10, 21, 17⟩ [] rfl (by simp only [List.mem_cons, List.not_mem_nil, or_false, forall_eq_or_imp, forall_eq]; exact ⟨Or.inr ⟨by decide, hb_e1, clL_13, by decide +kernel⟩, Or.inr ⟨by decide, hb_e2, clL_15, by decide +kernel⟩⟩) rfl (by decide) clL_17 (by decide +kernel) (by decide) (Or.inl ⟨dL_removeRoot_21, rfl⟩) ?_
      refine hs_iconst (v := (3 : Int32)) dL_removeRoot_23 (by decide) ?_
      obtain rfl := Option.some.inj h
      exact hs_ireturn dL_removeRoot_24 rfl (by rfl) (fun h => by cases h)
    rw [if_neg hE2] at h
    cases h
  obtain ⟨h1, nf1, hb1⟩ := hb_on_at h1
  refine hs_callVi (μ' := mX8_removeRoot) (mc := 1) (ms := 6) (rc := 0) (rs := 0) (As := [.int x1, .int x2]) (rest := [.int (0 : Int32), .ref x3]) (ci := 8) dL_removeRoot_5 lmL_53 okX8_removeRoot rfl (by decide) rfl (Nat.le_of_ble_eq_true rfl) rfl hb1 (c_X8_removeRoot hl h1) ?_
  refine hs_i2l dL_removeRoot_8 ?_
  obtain ⟨r2, h2, h⟩ := hb_bind h
  refine hs_last dL_removeRoot_9 h2 ?_
  refine hs_goto (tgt := 25) dL_removeRoot_10 (by decide) ?_
  refine hs_iconst (v := (0 : Int32)) dL_removeRoot_25 (by decide) ?_
  obtain rfl := Option.some.inj h
  exact hs_ireturn dL_removeRoot_26 rfl (by rfl) (fun _ => rfl)
def mL_objectInfo : hb_Y := (yL_objectInfo, cL_objectInfo, 5, (some .int), [(0, 10, 13, 13), (0, 10, 17, 15)], false)
set_option maxHeartbeats 4000000 in
set_option maxRecDepth 20000 in
theorem c_L_objectInfo {G : hb_G} {l : Launch} (hl : l.stackTraces = false) {x0 : Nat} {x1 : Int32} {x2 : Int32} {x3 : Nat} {σ : hb_M} {r : (Int32 × hb_M)} (h : f_L_objectInfo x0 x1 x2 x3 σ = some r) : hb_CallX G l true 5 1 6 mL_objectInfo [.ref x0, .int x1, .int x2, .ref x3] σ (.inl (some (.int r.1)), r.2) := by
  refine hb_metX (by decide) (Nat.le_of_ble_eq_true rfl) ?_
  unfold f_L_objectInfo at h
  refine hs_aload_n dL_objectInfo_0 3 rfl ?_
  refine hs_iconst (v := (0 : Int32)) dL_objectInfo_1 (by decide) ?_
  refine hs_aload_n dL_objectInfo_2 0 rfl ?_
  refine hs_iload_n dL_objectInfo_3 1 rfl ?_
  refine hs_iload_n dL_objectInfo_4 2 rfl ?_
  rcases hb_xc_at h with ⟨E1, r1, h1, h⟩ | ⟨v1, r1, h1, h⟩
  · obtain ⟨h1, nf1, hb1⟩ := hb_on_at h1
    by_cases hE0 : E1 = hb_e1
    · rw [if_pos hE0] at h
      subst hE0
      refine hs_callVx (μ' := mX8_objectInfo) (mc := 1) (ms := 6) (rc := 0) (rs := 0) (E := hb_e1) (As := [.int x1, .int x2]) (rest := [.int (0 : Int32), .ref x3]) (ci := 8) (k := 4) (ln := 2) dL_objectInfo_5 lmL_56 okX8_objectInfo rfl (by decide) rfl (Nat.le_of_ble_eq_true rfl) rfl hb1 (c_X8_objectInfo hl h1) [] ⟨0, 10, 13, 13⟩ [⟨0, 10, 17, 15⟩] rfl (fun y hy => by cases hy) rfl (by decide) clL_13 (by decide +kernel) (by decide) (Or.inl ⟨dL_objectInfo_13, rfl⟩) ?_
      refine hs_iconst (v := (1 : Int32)) dL_objectInfo_15 (by decide) ?_
      obtain rfl := Option.some.inj h
      exact hs_ireturn dL_objectInfo_16 rfl (by rfl) (fun h => by cases h)
    rw [if_neg hE0] at h
    by_cases hE1 : E1 = hb_e2
    · rw [if_pos hE1] at h
      subst hE1
      refine hs_callVx (μ' := mX8_objectInfo) (mc := 1) (ms := 6) (rc := 0) (rs := 0) (E := hb_e2) (As := [.int x1, .int x2]) (rest := [.int (0 : Int32), .ref x3]) (ci := 8) (k := 4) (ln := 2) dL_objectInfo_5 lmL_56 okX8_objectInfo rfl (by decide) rfl (Nat.le_of_ble_eq_true rfl) rfl hb1 (c_X8_objectInfo hl h1) [⟨0, 10, 13, 13⟩] ⟨0, 10, 17, 15⟩ [] rfl (by simp only [List.mem_cons, List.not_mem_nil, or_false, forall_eq_or_imp, forall_eq]; exact Or.inr ⟨by decide, hb_e1, clL_13, by decide +kernel⟩) rfl (by decide) clL_15 (by decide +kernel) (by decide) (Or.inl ⟨dL_objectInfo_17, rfl⟩) ?_
      refine hs_iconst (v := (2 : Int32)) dL_objectInfo_19 (by decide) ?_
      obtain rfl := Option.some.inj h
      exact hs_ireturn dL_objectInfo_20 rfl (by rfl) (fun h => by cases h)
    rw [if_neg hE1] at h
    cases h
  obtain ⟨h1, nf1, hb1⟩ := hb_on_at h1
  refine hs_callVi (μ' := mX8_objectInfo) (mc := 1) (ms := 6) (rc := 0) (rs := 0) (As := [.int x1, .int x2]) (rest := [.int (0 : Int32), .ref x3]) (ci := 8) dL_objectInfo_5 lmL_56 okX8_objectInfo rfl (by decide) rfl (Nat.le_of_ble_eq_true rfl) rfl hb1 (c_X8_objectInfo hl h1) ?_
  refine hs_i2l dL_objectInfo_8 ?_
  obtain ⟨r2, h2, h⟩ := hb_bind h
  refine hs_last dL_objectInfo_9 h2 ?_
  refine hs_goto (tgt := 21) dL_objectInfo_10 (by decide) ?_
  refine hs_iconst (v := (0 : Int32)) dL_objectInfo_21 (by decide) ?_
  obtain rfl := Option.some.inj h
  exact hs_ireturn dL_objectInfo_22 rfl (by rfl) (fun _ => rfl)
def mL_populate : hb_Y := (yL_populate, cL_populate, 5, (some .int), [(0, 10, 13, 15), (0, 10, 17, 17)], false)
set_option maxHeartbeats 4000000 in
set_option maxRecDepth 20000 in
theorem c_L_populate {G : hb_G} {l : Launch} (hl : l.stackTraces = false) {x0 : Nat} {x1 : Int32} {x2 : Int32} {x3 : Nat} {σ : hb_M} {r : (Int32 × hb_M)} (h : f_L_populate x0 x1 x2 x3 σ = some r) : hb_CallX G l true 6 2 12 mL_populate [.ref x0, .int x1, .int x2, .ref x3] σ (.inl (some (.int r.1)), r.2) := by
  refine hb_metX (by decide) (Nat.le_of_ble_eq_true rfl) ?_
  unfold f_L_populate at h
  refine hs_aload_n dL_populate_0 3 rfl ?_
  refine hs_iconst (v := (0 : Int32)) dL_populate_1 (by decide) ?_
  refine hs_aload_n dL_populate_2 0 rfl ?_
  refine hs_iload_n dL_populate_3 1 rfl ?_
  refine hs_iload_n dL_populate_4 2 rfl ?_
  rcases hb_xc_at h with ⟨E1, r1, h1, h⟩ | ⟨v1, r1, h1, h⟩
  · obtain ⟨h1, nf1, hb1⟩ := hb_on_at h1
    by_cases hE0 : E1 = hb_e2
    · rw [if_pos hE0] at h
      subst hE0
      refine hs_callVx (μ' := mX8_populate) (mc := 2) (ms := 12) (rc := 0) (rs := 0) (E := hb_e2) (As := [.int x1, .int x2]) (rest := [.int (0 : Int32), .ref x3]) (ci := 8) (k := 4) (ln := 2) dL_populate_5 lmL_59 okX8_populate rfl (by decide) rfl (Nat.le_of_ble_eq_true rfl) rfl hb1 (c_X8_populate hl h1) [] ⟨0, 10, 13, 15⟩ [⟨0, 10, 17, 17⟩] rfl (fun y hy => by cases hy) rfl (by decide) clL_15 (by decide +kernel) (by decide) (Or.inl ⟨dL_populate_13, rfl⟩) ?_
      refine hs_iconst (v := (1 : Int32)) dL_populate_15 (by decide) ?_
      obtain rfl := Option.some.inj h
      exact hs_ireturn dL_populate_16 rfl (by rfl) (fun h => by cases h)
    rw [if_neg hE0] at h
    by_cases hE1 : E1 = hb_e3
    · rw [if_pos hE1] at h
      subst hE1
      refine hs_callVx (μ' := mX8_populate) (mc := 2) (ms := 12) (rc := 0) (rs := 0) (E := hb_e3) (As := [.int x1, .int x2]) (rest := [.int (0 : Int32), .ref x3]) (ci := 8) (k := 4) (ln := 2) dL_populate_5 lmL_59 okX8_populate rfl (by decide) rfl (Nat.le_of_ble_eq_true rfl) rfl hb1 (c_X8_populate hl h1) [⟨0, 10, 13, 15⟩] ⟨0, 10, 17, 17⟩ [] rfl (by simp only [List.mem_cons, List.not_mem_nil, or_false, forall_eq_or_imp, forall_eq]; exact Or.inr ⟨by decide, hb_e2, clL_15, by decide +kernel⟩) rfl (by decide) clL_17 (by decide +kernel) (by decide) (Or.inl ⟨dL_populate_17, rfl⟩) ?_
      refine hs_iconst (v := (2 : Int32)) dL_populate_19 (by decide) ?_
      obtain rfl := Option.some.inj h
      exact hs_ireturn dL_populate_20 rfl (by rfl) (fun h => by cases h)
    rw [if_neg hE1] at h
    cases h
  obtain ⟨h1, nf1, hb1⟩ := hb_on_at h1
  refine hs_callVi (μ' := mX8_populate) (mc := 2) (ms := 12) (rc := 0) (rs := 0) (As := [.int x1, .int x2]) (rest := [.int (0 : Int32), .ref x3]) (ci := 8) dL_populate_5 lmL_59 okX8_populate rfl (by decide) rfl (Nat.le_of_ble_eq_true rfl) rfl hb1 (c_X8_populate hl h1) ?_
  refine hs_i2l dL_populate_8 ?_
  obtain ⟨r2, h2, h⟩ := hb_bind h
  refine hs_last dL_populate_9 h2 ?_
  refine hs_goto (tgt := 21) dL_populate_10 (by decide) ?_
  refine hs_iconst (v := (0 : Int32)) dL_populate_21 (by decide) ?_
  obtain rfl := Option.some.inj h
  exact hs_ireturn dL_populate_22 rfl (by rfl) (fun _ => rfl)
def mL_distance : hb_Y := (yL_distance, cL_distance, 4, (some .int), [(0, 9, 12, 13)], false)
set_option maxHeartbeats 4000000 in
set_option maxRecDepth 20000 in
theorem c_L_distance {G : hb_G} {l : Launch} (hl : l.stackTraces = false) {x0 : Nat} {x1 : Int32} {x2 : Nat} {σ : hb_M} {r : (Int32 × hb_M)} (h : f_L_distance x0 x1 x2 σ = some r) : hb_CallX G l true 5 1 6 mL_distance [.ref x0, .int x1, .ref x2] σ (.inl (some (.int r.1)), r.2) := by
  refine hb_metX (by decide) (Nat.le_of_ble_eq_true rfl) ?_
  unfold f_L_distance at h
  refine hs_aload_n dL_distance_0 2 rfl ?_
  refine hs_iconst (v := (0 : Int32)) dL_distance_1 (by decide) ?_
  refine hs_aload_n dL_distance_2 0 rfl ?_
  refine hs_iload_n dL_distance_3 1 rfl ?_
  rcases hb_xc_at h with ⟨E1, r1, h1, h⟩ | ⟨v1, r1, h1, h⟩
  · obtain ⟨h1, nf1, hb1⟩ := hb_on_at h1
    by_cases hE0 : E1 = hb_e1
    · rw [if_pos hE0] at h
      subst hE0
      refine hs_callVx (μ' := mX8_distance) (mc := 1) (ms := 6) (rc := 0) (rs := 0) (E := hb_e1) (As := [.int x1]) (rest := [.int (0 : Int32), .ref x2]) (ci := 8) (k := 3) (ln := 1) dL_distance_4 lmL_62 okX8_distance rfl (by decide) rfl (Nat.le_of_ble_eq_true rfl) rfl hb1 (c_X8_distance hl h1) [] ⟨0, 9, 12, 13⟩ [] rfl (fun y hy => by cases hy) rfl (by decide) clL_13 (by decide +kernel) (by decide) (Or.inr ⟨3, rfl, dL_distance_12, rfl⟩) ?_
      refine hs_iconst (v := (1 : Int32)) dL_distance_13 (by decide) ?_
      obtain rfl := Option.some.inj h
      exact hs_ireturn dL_distance_14 rfl (by rfl) (fun h => by cases h)
    rw [if_neg hE0] at h
    cases h
  obtain ⟨h1, nf1, hb1⟩ := hb_on_at h1
  refine hs_callVi (μ' := mX8_distance) (mc := 1) (ms := 6) (rc := 0) (rs := 0) (As := [.int x1]) (rest := [.int (0 : Int32), .ref x2]) (ci := 8) dL_distance_4 lmL_62 okX8_distance rfl (by decide) rfl (Nat.le_of_ble_eq_true rfl) rfl hb1 (c_X8_distance hl h1) ?_
  refine hs_i2l dL_distance_7 ?_
  obtain ⟨r2, h2, h⟩ := hb_bind h
  refine hs_last dL_distance_8 h2 ?_
  refine hs_goto (tgt := 15) dL_distance_9 (by decide) ?_
  refine hs_iconst (v := (0 : Int32)) dL_distance_15 (by decide) ?_
  obtain rfl := Option.some.inj h
  exact hs_ireturn dL_distance_16 rfl (by rfl) (fun _ => rfl)
def mL_pathAt : hb_Y := (yL_pathAt, cL_pathAt, 5, (some .int), [(0, 10, 13, 13)], false)
set_option maxHeartbeats 4000000 in
set_option maxRecDepth 20000 in
theorem c_L_pathAt {G : hb_G} {l : Launch} (hl : l.stackTraces = false) {x0 : Nat} {x1 : Int32} {x2 : Int32} {x3 : Nat} {σ : hb_M} {r : (Int32 × hb_M)} (h : f_L_pathAt x0 x1 x2 x3 σ = some r) : hb_CallX G l true 5 1 6 mL_pathAt [.ref x0, .int x1, .int x2, .ref x3] σ (.inl (some (.int r.1)), r.2) := by
  refine hb_metX (by decide) (Nat.le_of_ble_eq_true rfl) ?_
  unfold f_L_pathAt at h
  refine hs_aload_n dL_pathAt_0 3 rfl ?_
  refine hs_iconst (v := (0 : Int32)) dL_pathAt_1 (by decide) ?_
  refine hs_aload_n dL_pathAt_2 0 rfl ?_
  refine hs_iload_n dL_pathAt_3 1 rfl ?_
  refine hs_iload_n dL_pathAt_4 2 rfl ?_
  rcases hb_xc_at h with ⟨E1, r1, h1, h⟩ | ⟨v1, r1, h1, h⟩
  · obtain ⟨h1, nf1, hb1⟩ := hb_on_at h1
    by_cases hE0 : E1 = hb_e1
    · rw [if_pos hE0] at h
      subst hE0
      refine hs_callVx (μ' := mX8_pathAt) (mc := 1) (ms := 6) (rc := 0) (rs := 0) (E := hb_e1) (As := [.int x1, .int x2]) (rest := [.int (0 : Int32), .ref x3]) (ci := 8) (k := 4) (ln := 2) dL_pathAt_5 lmL_65 okX8_pathAt rfl (by decide) rfl (Nat.le_of_ble_eq_true rfl) rfl hb1 (c_X8_pathAt hl h1) [] ⟨0, 10, 13, 13⟩ [] rfl (fun y hy => by cases hy) rfl (by decide) clL_13 (by decide +kernel) (by decide) (Or.inl ⟨dL_pathAt_13, rfl⟩) ?_
      refine hs_iconst (v := (1 : Int32)) dL_pathAt_15 (by decide) ?_
      obtain rfl := Option.some.inj h
      exact hs_ireturn dL_pathAt_16 rfl (by rfl) (fun h => by cases h)
    rw [if_neg hE0] at h
    cases h
  obtain ⟨h1, nf1, hb1⟩ := hb_on_at h1
  refine hs_callVi (μ' := mX8_pathAt) (mc := 1) (ms := 6) (rc := 0) (rs := 0) (As := [.int x1, .int x2]) (rest := [.int (0 : Int32), .ref x3]) (ci := 8) dL_pathAt_5 lmL_65 okX8_pathAt rfl (by decide) rfl (Nat.le_of_ble_eq_true rfl) rfl hb1 (c_X8_pathAt hl h1) ?_
  refine hs_i2l dL_pathAt_8 ?_
  obtain ⟨r2, h2, h⟩ := hb_bind h
  refine hs_last dL_pathAt_9 h2 ?_
  refine hs_goto (tgt := 17) dL_pathAt_10 (by decide) ?_
  refine hs_iconst (v := (0 : Int32)) dL_pathAt_17 (by decide) ?_
  obtain rfl := Option.some.inj h
  exact hs_ireturn dL_pathAt_18 rfl (by rfl) (fun _ => rfl)
def mL_dominates : hb_Y := (yL_dominates, cL_dominates, 5, (some .int), [(0, 17, 20, 13)], false)
set_option maxHeartbeats 4000000 in
set_option maxRecDepth 20000 in
theorem c_L_dominates_b16 {G : hb_G} {l : Launch} (hl : l.stackTraces = false)  {s0 : Nat} {s1 : Int32} {s2 : Int64} {σ : hb_M} {r : (Int32 × hb_M)} (h : f_L_dominates_b16 s0 s1 s2 σ = some r) : hb_T G l true mL_dominates 5 0 0 16 [] [.long s2, .int s1, .ref s0] σ (.inl (some (.int r.1)), r.2) := by
  unfold f_L_dominates_b16 at h
  obtain ⟨r1, h1, h⟩ := hb_bind h
  refine hs_last dL_dominates_16 h1 ?_
  refine hs_goto (tgt := 24) dL_dominates_17 (by decide) ?_
  refine hs_iconst (v := (0 : Int32)) dL_dominates_24 (by decide) ?_
  obtain rfl := Option.some.inj h
  exact hs_ireturn dL_dominates_25 rfl (by rfl) (fun _ => rfl)
set_option maxHeartbeats 4000000 in
set_option maxRecDepth 20000 in
theorem c_L_dominates {G : hb_G} {l : Launch} (hl : l.stackTraces = false) {x0 : Nat} {x1 : Int32} {x2 : Int32} {x3 : Nat} {σ : hb_M} {r : (Int32 × hb_M)} (h : f_L_dominates x0 x1 x2 x3 σ = some r) : hb_CallX G l true 5 1 6 mL_dominates [.ref x0, .int x1, .int x2, .ref x3] σ (.inl (some (.int r.1)), r.2) := by
  refine hb_metX (by decide) (Nat.le_of_ble_eq_true rfl) ?_
  unfold f_L_dominates at h
  refine hs_aload_n dL_dominates_0 3 rfl ?_
  refine hs_iconst (v := (0 : Int32)) dL_dominates_1 (by decide) ?_
  refine hs_aload_n dL_dominates_2 0 rfl ?_
  refine hs_iload_n dL_dominates_3 1 rfl ?_
  refine hs_iload_n dL_dominates_4 2 rfl ?_
  rcases hb_xc_at h with ⟨E1, r1, h1, h⟩ | ⟨v1, r1, h1, h⟩
  · obtain ⟨h1, nf1, hb1⟩ := hb_on_at h1
    by_cases hE0 : E1 = hb_e1
    · rw [if_pos hE0] at h
      subst hE0
      refine hs_callVx (μ' := mX8_dominates) (mc := 1) (ms := 6) (rc := 0) (rs := 0) (E := hb_e1) (As := [.int x1, .int x2]) (rest := [.int (0 : Int32), .ref x3]) (ci := 8) (k := 4) (ln := 2) dL_dominates_5 lmL_68 okX8_dominates rfl (by decide) rfl (Nat.le_of_ble_eq_true rfl) rfl hb1 (c_X8_dominates hl h1) [] ⟨0, 17, 20, 13⟩ [] rfl (fun y hy => by cases hy) rfl (by decide) clL_13 (by decide +kernel) (by decide) (Or.inl ⟨dL_dominates_20, rfl⟩) ?_
      refine hs_iconst (v := (1 : Int32)) dL_dominates_22 (by decide) ?_
      obtain rfl := Option.some.inj h
      exact hs_ireturn dL_dominates_23 rfl (by rfl) (fun h => by cases h)
    rw [if_neg hE0] at h
    cases h
  obtain ⟨h1, nf1, hb1⟩ := hb_on_at h1
  refine hs_callVi (μ' := mX8_dominates) (mc := 1) (ms := 6) (rc := 0) (rs := 0) (As := [.int x1, .int x2]) (rest := [.int (0 : Int32), .ref x3]) (ci := 8) dL_dominates_5 lmL_68 okX8_dominates rfl (by decide) rfl (Nat.le_of_ble_eq_true rfl) rfl hb1 (c_X8_dominates hl h1) ?_
  refine hs_if_eq (tgt := 15) dL_dominates_8 (by decide) (fun hc2 => ?_) (fun hc2 => ?_)
  · rw [if_pos hc2] at h
    refine hs_lconst (v := (0 : Int64)) dL_dominates_15 (by decide) ?_
    refine hs_sub (lv' := []) [] rfl ?_
    exact c_L_dominates_b16 hl h
  · rw [if_neg hc2] at h
    refine hs_lconst (v := (1 : Int64)) dL_dominates_11 (by decide) ?_
    refine hs_goto (tgt := 16) dL_dominates_12 (by decide) ?_
    refine hs_sub (lv' := []) [] rfl ?_
    exact c_L_dominates_b16 hl h
def mL_dominator : hb_Y := (yL_dominator, cL_dominator, 4, (some .int), [(0, 9, 12, 13)], false)
set_option maxHeartbeats 4000000 in
set_option maxRecDepth 20000 in
theorem c_L_dominator {G : hb_G} {l : Launch} (hl : l.stackTraces = false) {x0 : Nat} {x1 : Int32} {x2 : Nat} {σ : hb_M} {r : (Int32 × hb_M)} (h : f_L_dominator x0 x1 x2 σ = some r) : hb_CallX G l true 5 1 6 mL_dominator [.ref x0, .int x1, .ref x2] σ (.inl (some (.int r.1)), r.2) := by
  refine hb_metX (by decide) (Nat.le_of_ble_eq_true rfl) ?_
  unfold f_L_dominator at h
  refine hs_aload_n dL_dominator_0 2 rfl ?_
  refine hs_iconst (v := (0 : Int32)) dL_dominator_1 (by decide) ?_
  refine hs_aload_n dL_dominator_2 0 rfl ?_
  refine hs_iload_n dL_dominator_3 1 rfl ?_
  rcases hb_xc_at h with ⟨E1, r1, h1, h⟩ | ⟨v1, r1, h1, h⟩
  · obtain ⟨h1, nf1, hb1⟩ := hb_on_at h1
    by_cases hE0 : E1 = hb_e1
    · rw [if_pos hE0] at h
      subst hE0
      refine hs_callVx (μ' := mX8_dominator) (mc := 1) (ms := 6) (rc := 0) (rs := 0) (E := hb_e1) (As := [.int x1]) (rest := [.int (0 : Int32), .ref x2]) (ci := 8) (k := 3) (ln := 1) dL_dominator_4 lmL_71 okX8_dominator rfl (by decide) rfl (Nat.le_of_ble_eq_true rfl) rfl hb1 (c_X8_dominator hl h1) [] ⟨0, 9, 12, 13⟩ [] rfl (fun y hy => by cases hy) rfl (by decide) clL_13 (by decide +kernel) (by decide) (Or.inr ⟨3, rfl, dL_dominator_12, rfl⟩) ?_
      refine hs_iconst (v := (1 : Int32)) dL_dominator_13 (by decide) ?_
      obtain rfl := Option.some.inj h
      exact hs_ireturn dL_dominator_14 rfl (by rfl) (fun h => by cases h)
    rw [if_neg hE0] at h
    cases h
  obtain ⟨h1, nf1, hb1⟩ := hb_on_at h1
  refine hs_callVi (μ' := mX8_dominator) (mc := 1) (ms := 6) (rc := 0) (rs := 0) (As := [.int x1]) (rest := [.int (0 : Int32), .ref x2]) (ci := 8) dL_dominator_4 lmL_71 okX8_dominator rfl (by decide) rfl (Nat.le_of_ble_eq_true rfl) rfl hb1 (c_X8_dominator hl h1) ?_
  refine hs_i2l dL_dominator_7 ?_
  obtain ⟨r2, h2, h⟩ := hb_bind h
  refine hs_last dL_dominator_8 h2 ?_
  refine hs_goto (tgt := 15) dL_dominator_9 (by decide) ?_
  refine hs_iconst (v := (0 : Int32)) dL_dominator_15 (by decide) ?_
  obtain rfl := Option.some.inj h
  exact hs_ireturn dL_dominator_16 rfl (by rfl) (fun _ => rfl)
def mL_depth : hb_Y := (yL_depth, cL_depth, 4, (some .int), [(0, 9, 12, 13)], false)
set_option maxHeartbeats 4000000 in
set_option maxRecDepth 20000 in
theorem c_L_depth {G : hb_G} {l : Launch} (hl : l.stackTraces = false) {x0 : Nat} {x1 : Int32} {x2 : Nat} {σ : hb_M} {r : (Int32 × hb_M)} (h : f_L_depth x0 x1 x2 σ = some r) : hb_CallX G l true 5 1 6 mL_depth [.ref x0, .int x1, .ref x2] σ (.inl (some (.int r.1)), r.2) := by
  refine hb_metX (by decide) (Nat.le_of_ble_eq_true rfl) ?_
  unfold f_L_depth at h
  refine hs_aload_n dL_depth_0 2 rfl ?_
  refine hs_iconst (v := (0 : Int32)) dL_depth_1 (by decide) ?_
  refine hs_aload_n dL_depth_2 0 rfl ?_
  refine hs_iload_n dL_depth_3 1 rfl ?_
  rcases hb_xc_at h with ⟨E1, r1, h1, h⟩ | ⟨v1, r1, h1, h⟩
  · obtain ⟨h1, nf1, hb1⟩ := hb_on_at h1
    by_cases hE0 : E1 = hb_e1
    · rw [if_pos hE0] at h
      subst hE0
      refine hs_callVx (μ' := mX8_depth) (mc := 1) (ms := 6) (rc := 0) (rs := 0) (E := hb_e1) (As := [.int x1]) (rest := [.int (0 : Int32), .ref x2]) (ci := 8) (k := 3) (ln := 1) dL_depth_4 lmL_74 okX8_depth rfl (by decide) rfl (Nat.le_of_ble_eq_true rfl) rfl hb1 (c_X8_depth hl h1) [] ⟨0, 9, 12, 13⟩ [] rfl (fun y hy => by cases hy) rfl (by decide) clL_13 (by decide +kernel) (by decide) (Or.inr ⟨3, rfl, dL_depth_12, rfl⟩) ?_
      refine hs_iconst (v := (1 : Int32)) dL_depth_13 (by decide) ?_
      obtain rfl := Option.some.inj h
      exact hs_ireturn dL_depth_14 rfl (by rfl) (fun h => by cases h)
    rw [if_neg hE0] at h
    cases h
  obtain ⟨h1, nf1, hb1⟩ := hb_on_at h1
  refine hs_callVi (μ' := mX8_depth) (mc := 1) (ms := 6) (rc := 0) (rs := 0) (As := [.int x1]) (rest := [.int (0 : Int32), .ref x2]) (ci := 8) dL_depth_4 lmL_74 okX8_depth rfl (by decide) rfl (Nat.le_of_ble_eq_true rfl) rfl hb1 (c_X8_depth hl h1) ?_
  refine hs_i2l dL_depth_7 ?_
  obtain ⟨r2, h2, h⟩ := hb_bind h
  refine hs_last dL_depth_8 h2 ?_
  refine hs_goto (tgt := 15) dL_depth_9 (by decide) ?_
  refine hs_iconst (v := (0 : Int32)) dL_depth_15 (by decide) ?_
  obtain rfl := Option.some.inj h
  exact hs_ireturn dL_depth_16 rfl (by rfl) (fun _ => rfl)
def mL_dominatedAt : hb_Y := (yL_dominatedAt, cL_dominatedAt, 5, (some .int), [(0, 10, 13, 13)], false)
set_option maxHeartbeats 4000000 in
set_option maxRecDepth 20000 in
theorem c_L_dominatedAt {G : hb_G} {l : Launch} (hl : l.stackTraces = false) {x0 : Nat} {x1 : Int32} {x2 : Int32} {x3 : Nat} {σ : hb_M} {r : (Int32 × hb_M)} (h : f_L_dominatedAt x0 x1 x2 x3 σ = some r) : hb_CallX G l true 5 1 6 mL_dominatedAt [.ref x0, .int x1, .int x2, .ref x3] σ (.inl (some (.int r.1)), r.2) := by
  refine hb_metX (by decide) (Nat.le_of_ble_eq_true rfl) ?_
  unfold f_L_dominatedAt at h
  refine hs_aload_n dL_dominatedAt_0 3 rfl ?_
  refine hs_iconst (v := (0 : Int32)) dL_dominatedAt_1 (by decide) ?_
  refine hs_aload_n dL_dominatedAt_2 0 rfl ?_
  refine hs_iload_n dL_dominatedAt_3 1 rfl ?_
  refine hs_iload_n dL_dominatedAt_4 2 rfl ?_
  rcases hb_xc_at h with ⟨E1, r1, h1, h⟩ | ⟨v1, r1, h1, h⟩
  · obtain ⟨h1, nf1, hb1⟩ := hb_on_at h1
    by_cases hE0 : E1 = hb_e1
    · rw [if_pos hE0] at h
      subst hE0
      refine hs_callVx (μ' := mX8_dominatedAt) (mc := 1) (ms := 6) (rc := 0) (rs := 0) (E := hb_e1) (As := [.int x1, .int x2]) (rest := [.int (0 : Int32), .ref x3]) (ci := 8) (k := 4) (ln := 2) dL_dominatedAt_5 lmL_77 okX8_dominatedAt rfl (by decide) rfl (Nat.le_of_ble_eq_true rfl) rfl hb1 (c_X8_dominatedAt hl h1) [] ⟨0, 10, 13, 13⟩ [] rfl (fun y hy => by cases hy) rfl (by decide) clL_13 (by decide +kernel) (by decide) (Or.inl ⟨dL_dominatedAt_13, rfl⟩) ?_
      refine hs_iconst (v := (1 : Int32)) dL_dominatedAt_15 (by decide) ?_
      obtain rfl := Option.some.inj h
      exact hs_ireturn dL_dominatedAt_16 rfl (by rfl) (fun h => by cases h)
    rw [if_neg hE0] at h
    cases h
  obtain ⟨h1, nf1, hb1⟩ := hb_on_at h1
  refine hs_callVi (μ' := mX8_dominatedAt) (mc := 1) (ms := 6) (rc := 0) (rs := 0) (As := [.int x1, .int x2]) (rest := [.int (0 : Int32), .ref x3]) (ci := 8) dL_dominatedAt_5 lmL_77 okX8_dominatedAt rfl (by decide) rfl (Nat.le_of_ble_eq_true rfl) rfl hb1 (c_X8_dominatedAt hl h1) ?_
  refine hs_i2l dL_dominatedAt_8 ?_
  obtain ⟨r2, h2, h⟩ := hb_bind h
  refine hs_last dL_dominatedAt_9 h2 ?_
  refine hs_goto (tgt := 17) dL_dominatedAt_10 (by decide) ?_
  refine hs_iconst (v := (0 : Int32)) dL_dominatedAt_17 (by decide) ?_
  obtain rfl := Option.some.inj h
  exact hs_ireturn dL_dominatedAt_18 rfl (by rfl) (fun _ => rfl)
def mL_retainedSize : hb_Y := (yL_retainedSize, cL_retainedSize, 4, (some .int), [(0, 9, 12, 13)], false)
set_option maxHeartbeats 4000000 in
set_option maxRecDepth 20000 in
theorem c_L_retainedSize {G : hb_G} {l : Launch} (hl : l.stackTraces = false) {x0 : Nat} {x1 : Int32} {x2 : Nat} {σ : hb_M} {r : (Int32 × hb_M)} (h : f_L_retainedSize x0 x1 x2 σ = some r) : hb_CallX G l true 5 1 6 mL_retainedSize [.ref x0, .int x1, .ref x2] σ (.inl (some (.int r.1)), r.2) := by
  refine hb_metX (by decide) (Nat.le_of_ble_eq_true rfl) ?_
  unfold f_L_retainedSize at h
  refine hs_aload_n dL_retainedSize_0 2 rfl ?_
  refine hs_iconst (v := (0 : Int32)) dL_retainedSize_1 (by decide) ?_
  refine hs_aload_n dL_retainedSize_2 0 rfl ?_
  refine hs_iload_n dL_retainedSize_3 1 rfl ?_
  rcases hb_xc_at h with ⟨E1, r1, h1, h⟩ | ⟨v1, r1, h1, h⟩
  · obtain ⟨h1, nf1, hb1⟩ := hb_on_at h1
    by_cases hE0 : E1 = hb_e1
    · rw [if_pos hE0] at h
      subst hE0
      refine hs_callVx (μ' := mX8_retainedSize) (mc := 1) (ms := 6) (rc := 0) (rs := 0) (E := hb_e1) (As := [.int x1]) (rest := [.int (0 : Int32), .ref x2]) (ci := 8) (k := 3) (ln := 1) dL_retainedSize_4 lmL_80 okX8_retainedSize rfl (by decide) rfl (Nat.le_of_ble_eq_true rfl) rfl hb1 (c_X8_retainedSize hl h1) [] ⟨0, 9, 12, 13⟩ [] rfl (fun y hy => by cases hy) rfl (by decide) clL_13 (by decide +kernel) (by decide) (Or.inr ⟨3, rfl, dL_retainedSize_12, rfl⟩) ?_
      refine hs_iconst (v := (1 : Int32)) dL_retainedSize_13 (by decide) ?_
      obtain rfl := Option.some.inj h
      exact hs_ireturn dL_retainedSize_14 rfl (by rfl) (fun h => by cases h)
    rw [if_neg hE0] at h
    cases h
  obtain ⟨h1, nf1, hb1⟩ := hb_on_at h1
  refine hs_callVi (μ' := mX8_retainedSize) (mc := 1) (ms := 6) (rc := 0) (rs := 0) (As := [.int x1]) (rest := [.int (0 : Int32), .ref x2]) (ci := 8) dL_retainedSize_4 lmL_80 okX8_retainedSize rfl (by decide) rfl (Nat.le_of_ble_eq_true rfl) rfl hb1 (c_X8_retainedSize hl h1) ?_
  refine hs_i2l dL_retainedSize_7 ?_
  obtain ⟨r2, h2, h⟩ := hb_bind h
  refine hs_last dL_retainedSize_8 h2 ?_
  refine hs_goto (tgt := 15) dL_retainedSize_9 (by decide) ?_
  refine hs_iconst (v := (0 : Int32)) dL_retainedSize_15 (by decide) ?_
  obtain rfl := Option.some.inj h
  exact hs_ireturn dL_retainedSize_16 rfl (by rfl) (fun _ => rfl)
def mL_retainedObjects : hb_Y := (yL_retainedObjects, cL_retainedObjects, 4, (some .int), [(0, 9, 12, 13)], false)
set_option maxHeartbeats 4000000 in
set_option maxRecDepth 20000 in
theorem c_L_retainedObjects {G : hb_G} {l : Launch} (hl : l.stackTraces = false) {x0 : Nat} {x1 : Int32} {x2 : Nat} {σ : hb_M} {r : (Int32 × hb_M)} (h : f_L_retainedObjects x0 x1 x2 σ = some r) : hb_CallX G l true 5 1 6 mL_retainedObjects [.ref x0, .int x1, .ref x2] σ (.inl (some (.int r.1)), r.2) := by
  refine hb_metX (by decide) (Nat.le_of_ble_eq_true rfl) ?_
  unfold f_L_retainedObjects at h
  refine hs_aload_n dL_retainedObjects_0 2 rfl ?_
  refine hs_iconst (v := (0 : Int32)) dL_retainedObjects_1 (by decide) ?_
  refine hs_aload_n dL_retainedObjects_2 0 rfl ?_
  refine hs_iload_n dL_retainedObjects_3 1 rfl ?_
  rcases hb_xc_at h with ⟨E1, r1, h1, h⟩ | ⟨v1, r1, h1, h⟩
  · obtain ⟨h1, nf1, hb1⟩ := hb_on_at h1
    by_cases hE0 : E1 = hb_e1
    · rw [if_pos hE0] at h
      subst hE0
      refine hs_callVx (μ' := mX8_retainedObjects) (mc := 1) (ms := 6) (rc := 0) (rs := 0) (E := hb_e1) (As := [.int x1]) (rest := [.int (0 : Int32), .ref x2]) (ci := 8) (k := 3) (ln := 1) dL_retainedObjects_4 lmL_83 okX8_retainedObjects rfl (by decide) rfl (Nat.le_of_ble_eq_true rfl) rfl hb1 (c_X8_retainedObjects hl h1) [] ⟨0, 9, 12, 13⟩ [] rfl (fun y hy => by cases hy) rfl (by decide) clL_13 (by decide +kernel) (by decide) (Or.inr ⟨3, rfl, dL_retainedObjects_12, rfl⟩) ?_
      refine hs_iconst (v := (1 : Int32)) dL_retainedObjects_13 (by decide) ?_
      obtain rfl := Option.some.inj h
      exact hs_ireturn dL_retainedObjects_14 rfl (by rfl) (fun h => by cases h)
    rw [if_neg hE0] at h
    cases h
  obtain ⟨h1, nf1, hb1⟩ := hb_on_at h1
  refine hs_callVi (μ' := mX8_retainedObjects) (mc := 1) (ms := 6) (rc := 0) (rs := 0) (As := [.int x1]) (rest := [.int (0 : Int32), .ref x2]) (ci := 8) dL_retainedObjects_4 lmL_83 okX8_retainedObjects rfl (by decide) rfl (Nat.le_of_ble_eq_true rfl) rfl hb1 (c_X8_retainedObjects hl h1) ?_
  refine hs_i2l dL_retainedObjects_7 ?_
  obtain ⟨r2, h2, h⟩ := hb_bind h
  refine hs_last dL_retainedObjects_8 h2 ?_
  refine hs_goto (tgt := 15) dL_retainedObjects_9 (by decide) ?_
  refine hs_iconst (v := (0 : Int32)) dL_retainedObjects_15 (by decide) ?_
  obtain rfl := Option.some.inj h
  exact hs_ireturn dL_retainedObjects_16 rfl (by rfl) (fun _ => rfl)
def mL_component : hb_Y := (yL_component, cL_component, 4, (some .int), [(0, 9, 12, 13)], false)
set_option maxHeartbeats 4000000 in
set_option maxRecDepth 20000 in
theorem c_L_component {G : hb_G} {l : Launch} (hl : l.stackTraces = false) {x0 : Nat} {x1 : Int32} {x2 : Nat} {σ : hb_M} {r : (Int32 × hb_M)} (h : f_L_component x0 x1 x2 σ = some r) : hb_CallX G l true 5 1 6 mL_component [.ref x0, .int x1, .ref x2] σ (.inl (some (.int r.1)), r.2) := by
  refine hb_metX (by decide) (Nat.le_of_ble_eq_true rfl) ?_
  unfold f_L_component at h
  refine hs_aload_n dL_component_0 2 rfl ?_
  refine hs_iconst (v := (0 : Int32)) dL_component_1 (by decide) ?_
  refine hs_aload_n dL_component_2 0 rfl ?_
  refine hs_iload_n dL_component_3 1 rfl ?_
  rcases hb_xc_at h with ⟨E1, r1, h1, h⟩ | ⟨v1, r1, h1, h⟩
  · obtain ⟨h1, nf1, hb1⟩ := hb_on_at h1
    by_cases hE0 : E1 = hb_e1
    · rw [if_pos hE0] at h
      subst hE0
      refine hs_callVx (μ' := mX8_component) (mc := 1) (ms := 6) (rc := 0) (rs := 0) (E := hb_e1) (As := [.int x1]) (rest := [.int (0 : Int32), .ref x2]) (ci := 8) (k := 3) (ln := 1) dL_component_4 lmL_86 okX8_component rfl (by decide) rfl (Nat.le_of_ble_eq_true rfl) rfl hb1 (c_X8_component hl h1) [] ⟨0, 9, 12, 13⟩ [] rfl (fun y hy => by cases hy) rfl (by decide) clL_13 (by decide +kernel) (by decide) (Or.inr ⟨3, rfl, dL_component_12, rfl⟩) ?_
      refine hs_iconst (v := (1 : Int32)) dL_component_13 (by decide) ?_
      obtain rfl := Option.some.inj h
      exact hs_ireturn dL_component_14 rfl (by rfl) (fun h => by cases h)
    rw [if_neg hE0] at h
    cases h
  obtain ⟨h1, nf1, hb1⟩ := hb_on_at h1
  refine hs_callVi (μ' := mX8_component) (mc := 1) (ms := 6) (rc := 0) (rs := 0) (As := [.int x1]) (rest := [.int (0 : Int32), .ref x2]) (ci := 8) dL_component_4 lmL_86 okX8_component rfl (by decide) rfl (Nat.le_of_ble_eq_true rfl) rfl hb1 (c_X8_component hl h1) ?_
  refine hs_i2l dL_component_7 ?_
  obtain ⟨r2, h2, h⟩ := hb_bind h
  refine hs_last dL_component_8 h2 ?_
  refine hs_goto (tgt := 15) dL_component_9 (by decide) ?_
  refine hs_iconst (v := (0 : Int32)) dL_component_15 (by decide) ?_
  obtain rfl := Option.some.inj h
  exact hs_ireturn dL_component_16 rfl (by rfl) (fun _ => rfl)
def mL_componentSize : hb_Y := (yL_componentSize, cL_componentSize, 4, (some .int), [(0, 9, 12, 13)], false)
set_option maxHeartbeats 4000000 in
set_option maxRecDepth 20000 in
theorem c_L_componentSize {G : hb_G} {l : Launch} (hl : l.stackTraces = false) {x0 : Nat} {x1 : Int32} {x2 : Nat} {σ : hb_M} {r : (Int32 × hb_M)} (h : f_L_componentSize x0 x1 x2 σ = some r) : hb_CallX G l true 5 1 6 mL_componentSize [.ref x0, .int x1, .ref x2] σ (.inl (some (.int r.1)), r.2) := by
  refine hb_metX (by decide) (Nat.le_of_ble_eq_true rfl) ?_
  unfold f_L_componentSize at h
  refine hs_aload_n dL_componentSize_0 2 rfl ?_
  refine hs_iconst (v := (0 : Int32)) dL_componentSize_1 (by decide) ?_
  refine hs_aload_n dL_componentSize_2 0 rfl ?_
  refine hs_iload_n dL_componentSize_3 1 rfl ?_
  rcases hb_xc_at h with ⟨E1, r1, h1, h⟩ | ⟨v1, r1, h1, h⟩
  · obtain ⟨h1, nf1, hb1⟩ := hb_on_at h1
    by_cases hE0 : E1 = hb_e1
    · rw [if_pos hE0] at h
      subst hE0
      refine hs_callVx (μ' := mX8_componentSize) (mc := 1) (ms := 6) (rc := 0) (rs := 0) (E := hb_e1) (As := [.int x1]) (rest := [.int (0 : Int32), .ref x2]) (ci := 8) (k := 3) (ln := 1) dL_componentSize_4 lmL_89 okX8_componentSize rfl (by decide) rfl (Nat.le_of_ble_eq_true rfl) rfl hb1 (c_X8_componentSize hl h1) [] ⟨0, 9, 12, 13⟩ [] rfl (fun y hy => by cases hy) rfl (by decide) clL_13 (by decide +kernel) (by decide) (Or.inr ⟨3, rfl, dL_componentSize_12, rfl⟩) ?_
      refine hs_iconst (v := (1 : Int32)) dL_componentSize_13 (by decide) ?_
      obtain rfl := Option.some.inj h
      exact hs_ireturn dL_componentSize_14 rfl (by rfl) (fun h => by cases h)
    rw [if_neg hE0] at h
    cases h
  obtain ⟨h1, nf1, hb1⟩ := hb_on_at h1
  refine hs_callVi (μ' := mX8_componentSize) (mc := 1) (ms := 6) (rc := 0) (rs := 0) (As := [.int x1]) (rest := [.int (0 : Int32), .ref x2]) (ci := 8) dL_componentSize_4 lmL_89 okX8_componentSize rfl (by decide) rfl (Nat.le_of_ble_eq_true rfl) rfl hb1 (c_X8_componentSize hl h1) ?_
  refine hs_i2l dL_componentSize_7 ?_
  obtain ⟨r2, h2, h⟩ := hb_bind h
  refine hs_last dL_componentSize_8 h2 ?_
  refine hs_goto (tgt := 15) dL_componentSize_9 (by decide) ?_
  refine hs_iconst (v := (0 : Int32)) dL_componentSize_15 (by decide) ?_
  obtain rfl := Option.some.inj h
  exact hs_ireturn dL_componentSize_16 rfl (by rfl) (fun _ => rfl)
def mL_freedByClearing : hb_Y := (yL_freedByClearing, cL_freedByClearing, 5, (some .int), [(0, 10, 13, 13)], false)
set_option maxHeartbeats 4000000 in
set_option maxRecDepth 20000 in
theorem c_L_freedByClearing {G : hb_G} {l : Launch} (hl : l.stackTraces = false) {x0 : Nat} {x1 : Int32} {x2 : Int32} {x3 : Nat} {σ : hb_M} {r : (Int32 × hb_M)} (h : f_L_freedByClearing x0 x1 x2 x3 σ = some r) : hb_CallX G l true 5 1 6 mL_freedByClearing [.ref x0, .int x1, .int x2, .ref x3] σ (.inl (some (.int r.1)), r.2) := by
  refine hb_metX (by decide) (Nat.le_of_ble_eq_true rfl) ?_
  unfold f_L_freedByClearing at h
  refine hs_aload_n dL_freedByClearing_0 3 rfl ?_
  refine hs_iconst (v := (0 : Int32)) dL_freedByClearing_1 (by decide) ?_
  refine hs_aload_n dL_freedByClearing_2 0 rfl ?_
  refine hs_iload_n dL_freedByClearing_3 1 rfl ?_
  refine hs_iload_n dL_freedByClearing_4 2 rfl ?_
  rcases hb_xc_at h with ⟨E1, r1, h1, h⟩ | ⟨v1, r1, h1, h⟩
  · obtain ⟨h1, nf1, hb1⟩ := hb_on_at h1
    by_cases hE0 : E1 = hb_e1
    · rw [if_pos hE0] at h
      subst hE0
      refine hs_callVx (μ' := mX8_freedByClearing) (mc := 1) (ms := 6) (rc := 0) (rs := 0) (E := hb_e1) (As := [.int x1, .int x2]) (rest := [.int (0 : Int32), .ref x3]) (ci := 8) (k := 4) (ln := 2) dL_freedByClearing_5 lmL_92 okX8_freedByClearing rfl (by decide) rfl (Nat.le_of_ble_eq_true rfl) rfl hb1 (c_X8_freedByClearing hl h1) [] ⟨0, 10, 13, 13⟩ [] rfl (fun y hy => by cases hy) rfl (by decide) clL_13 (by decide +kernel) (by decide) (Or.inl ⟨dL_freedByClearing_13, rfl⟩) ?_
      refine hs_iconst (v := (1 : Int32)) dL_freedByClearing_15 (by decide) ?_
      obtain rfl := Option.some.inj h
      exact hs_ireturn dL_freedByClearing_16 rfl (by rfl) (fun h => by cases h)
    rw [if_neg hE0] at h
    cases h
  obtain ⟨h1, nf1, hb1⟩ := hb_on_at h1
  refine hs_callVi (μ' := mX8_freedByClearing) (mc := 1) (ms := 6) (rc := 0) (rs := 0) (As := [.int x1, .int x2]) (rest := [.int (0 : Int32), .ref x3]) (ci := 8) dL_freedByClearing_5 lmL_92 okX8_freedByClearing rfl (by decide) rfl (Nat.le_of_ble_eq_true rfl) rfl hb1 (c_X8_freedByClearing hl h1) ?_
  refine hs_i2l dL_freedByClearing_8 ?_
  obtain ⟨r2, h2, h⟩ := hb_bind h
  refine hs_last dL_freedByClearing_9 h2 ?_
  refine hs_goto (tgt := 17) dL_freedByClearing_10 (by decide) ?_
  refine hs_iconst (v := (0 : Int32)) dL_freedByClearing_17 (by decide) ?_
  obtain rfl := Option.some.inj h
  exact hs_ireturn dL_freedByClearing_18 rfl (by rfl) (fun _ => rfl)
def mL_freedByUnrooting : hb_Y := (yL_freedByUnrooting, cL_freedByUnrooting, 4, (some .int), [(0, 9, 12, 13)], false)
set_option maxHeartbeats 4000000 in
set_option maxRecDepth 20000 in
theorem c_L_freedByUnrooting {G : hb_G} {l : Launch} (hl : l.stackTraces = false) {x0 : Nat} {x1 : Int32} {x2 : Nat} {σ : hb_M} {r : (Int32 × hb_M)} (h : f_L_freedByUnrooting x0 x1 x2 σ = some r) : hb_CallX G l true 5 1 6 mL_freedByUnrooting [.ref x0, .int x1, .ref x2] σ (.inl (some (.int r.1)), r.2) := by
  refine hb_metX (by decide) (Nat.le_of_ble_eq_true rfl) ?_
  unfold f_L_freedByUnrooting at h
  refine hs_aload_n dL_freedByUnrooting_0 2 rfl ?_
  refine hs_iconst (v := (0 : Int32)) dL_freedByUnrooting_1 (by decide) ?_
  refine hs_aload_n dL_freedByUnrooting_2 0 rfl ?_
  refine hs_iload_n dL_freedByUnrooting_3 1 rfl ?_
  rcases hb_xc_at h with ⟨E1, r1, h1, h⟩ | ⟨v1, r1, h1, h⟩
  · obtain ⟨h1, nf1, hb1⟩ := hb_on_at h1
    by_cases hE0 : E1 = hb_e1
    · rw [if_pos hE0] at h
      subst hE0
      refine hs_callVx (μ' := mX8_freedByUnrooting) (mc := 1) (ms := 6) (rc := 0) (rs := 0) (E := hb_e1) (As := [.int x1]) (rest := [.int (0 : Int32), .ref x2]) (ci := 8) (k := 3) (ln := 1) dL_freedByUnrooting_4 lmL_95 okX8_freedByUnrooting rfl (by decide) rfl (Nat.le_of_ble_eq_true rfl) rfl hb1 (c_X8_freedByUnrooting hl h1) [] ⟨0, 9, 12, 13⟩ [] rfl (fun y hy => by cases hy) rfl (by decide) clL_13 (by decide +kernel) (by decide) (Or.inr ⟨3, rfl, dL_freedByUnrooting_12, rfl⟩) ?_
      refine hs_iconst (v := (1 : Int32)) dL_freedByUnrooting_13 (by decide) ?_
      obtain rfl := Option.some.inj h
      exact hs_ireturn dL_freedByUnrooting_14 rfl (by rfl) (fun h => by cases h)
    rw [if_neg hE0] at h
    cases h
  obtain ⟨h1, nf1, hb1⟩ := hb_on_at h1
  refine hs_callVi (μ' := mX8_freedByUnrooting) (mc := 1) (ms := 6) (rc := 0) (rs := 0) (As := [.int x1]) (rest := [.int (0 : Int32), .ref x2]) (ci := 8) dL_freedByUnrooting_4 lmL_95 okX8_freedByUnrooting rfl (by decide) rfl (Nat.le_of_ble_eq_true rfl) rfl hb1 (c_X8_freedByUnrooting hl h1) ?_
  refine hs_i2l dL_freedByUnrooting_7 ?_
  obtain ⟨r2, h2, h⟩ := hb_bind h
  refine hs_last dL_freedByUnrooting_8 h2 ?_
  refine hs_goto (tgt := 15) dL_freedByUnrooting_9 (by decide) ?_
  refine hs_iconst (v := (0 : Int32)) dL_freedByUnrooting_15 (by decide) ?_
  obtain rfl := Option.some.inj h
  exact hs_ireturn dL_freedByUnrooting_16 rfl (by rfl) (fun _ => rfl)
def mL_group : hb_Y := (yL_group, cL_group, 6, (some .int), [(0, 12, 15, 13), (0, 12, 19, 15)], false)
set_option maxHeartbeats 4000000 in
set_option maxRecDepth 20000 in
theorem c_L_group {G : hb_G} {l : Launch} (hl : l.stackTraces = false) {x0 : Nat} {x1 : Int32} {x2 : Int32} {x3 : Int32} {x4 : Nat} {σ : hb_M} {r : (Int32 × hb_M)} (h : f_L_group x0 x1 x2 x3 x4 σ = some r) : hb_CallX G l true 5 1 6 mL_group [.ref x0, .int x1, .int x2, .int x3, .ref x4] σ (.inl (some (.int r.1)), r.2) := by
  refine hb_metX (by decide) (Nat.le_of_ble_eq_true rfl) ?_
  unfold f_L_group at h
  refine hs_aload dL_group_0 4 rfl ?_
  refine hs_iconst (v := (0 : Int32)) dL_group_2 (by decide) ?_
  refine hs_aload_n dL_group_3 0 rfl ?_
  refine hs_iload_n dL_group_4 1 rfl ?_
  refine hs_iload_n dL_group_5 2 rfl ?_
  refine hs_iload_n dL_group_6 3 rfl ?_
  rcases hb_xc_at h with ⟨E1, r1, h1, h⟩ | ⟨v1, r1, h1, h⟩
  · obtain ⟨h1, nf1, hb1⟩ := hb_on_at h1
    by_cases hE0 : E1 = hb_e1
    · rw [if_pos hE0] at h
      subst hE0
      refine hs_callVx (μ' := mX8_group) (mc := 1) (ms := 6) (rc := 0) (rs := 0) (E := hb_e1) (As := [.int x1, .int x2, .int x3]) (rest := [.int (0 : Int32), .ref x4]) (ci := 8) (k := 5) (ln := 2) dL_group_7 lmL_98 okX8_group rfl (by decide) rfl (Nat.le_of_ble_eq_true rfl) rfl hb1 (c_X8_group hl h1) [] ⟨0, 12, 15, 13⟩ [⟨0, 12, 19, 15⟩] rfl (fun y hy => by cases hy) rfl (by decide) clL_13 (by decide +kernel) (by decide) (Or.inl ⟨dL_group_15, rfl⟩) ?_
      refine hs_iconst (v := (1 : Int32)) dL_group_17 (by decide) ?_
      obtain rfl := Option.some.inj h
      exact hs_ireturn dL_group_18 rfl (by rfl) (fun h => by cases h)
    rw [if_neg hE0] at h
    by_cases hE1 : E1 = hb_e2
    · rw [if_pos hE1] at h
      subst hE1
      refine hs_callVx (μ' := mX8_group) (mc := 1) (ms := 6) (rc := 0) (rs := 0) (E := hb_e2) (As := [.int x1, .int x2, .int x3]) (rest := [.int (0 : Int32), .ref x4]) (ci := 8) (k := 5) (ln := 2) dL_group_7 lmL_98 okX8_group rfl (by decide) rfl (Nat.le_of_ble_eq_true rfl) rfl hb1 (c_X8_group hl h1) [⟨0, 12, 15, 13⟩] ⟨0, 12, 19, 15⟩ [] rfl (by simp only [List.mem_cons, List.not_mem_nil, or_false, forall_eq_or_imp, forall_eq]; exact Or.inr ⟨by decide, hb_e1, clL_13, by decide +kernel⟩) rfl (by decide) clL_15 (by decide +kernel) (by decide) (Or.inl ⟨dL_group_19, rfl⟩) ?_
      refine hs_iconst (v := (2 : Int32)) dL_group_21 (by decide) ?_
      obtain rfl := Option.some.inj h
      exact hs_ireturn dL_group_22 rfl (by rfl) (fun h => by cases h)
    rw [if_neg hE1] at h
    cases h
  obtain ⟨h1, nf1, hb1⟩ := hb_on_at h1
  refine hs_callVi (μ' := mX8_group) (mc := 1) (ms := 6) (rc := 0) (rs := 0) (As := [.int x1, .int x2, .int x3]) (rest := [.int (0 : Int32), .ref x4]) (ci := 8) dL_group_7 lmL_98 okX8_group rfl (by decide) rfl (Nat.le_of_ble_eq_true rfl) rfl hb1 (c_X8_group hl h1) ?_
  refine hs_i2l dL_group_10 ?_
  obtain ⟨r2, h2, h⟩ := hb_bind h
  refine hs_last dL_group_11 h2 ?_
  refine hs_goto (tgt := 23) dL_group_12 (by decide) ?_
  refine hs_iconst (v := (0 : Int32)) dL_group_23 (by decide) ?_
  obtain rfl := Option.some.inj h
  exact hs_ireturn dL_group_24 rfl (by rfl) (fun _ => rfl)
def mL_meanRetainedBits : hb_Y := (yL_meanRetainedBits, cL_meanRetainedBits, 4, (some .int), [(0, 8, 11, 13)], false)
set_option maxHeartbeats 4000000 in
set_option maxRecDepth 20000 in
theorem c_L_meanRetainedBits {G : hb_G} {l : Launch} (hl : l.stackTraces = false) {x0 : Nat} {x1 : Int32} {x2 : Nat} {σ : hb_M} {r : (Int32 × hb_M)} (h : f_L_meanRetainedBits x0 x1 x2 σ = some r) : hb_CallX G l true 5 1 6 mL_meanRetainedBits [.ref x0, .int x1, .ref x2] σ (.inl (some (.int r.1)), r.2) := by
  refine hb_metX (by decide) (Nat.le_of_ble_eq_true rfl) ?_
  unfold f_L_meanRetainedBits at h
  refine hs_aload_n dL_meanRetainedBits_0 2 rfl ?_
  refine hs_iconst (v := (0 : Int32)) dL_meanRetainedBits_1 (by decide) ?_
  refine hs_aload_n dL_meanRetainedBits_2 0 rfl ?_
  refine hs_iload_n dL_meanRetainedBits_3 1 rfl ?_
  rcases hb_xc_at h with ⟨E1, r1, h1, h⟩ | ⟨v1, r1, h1, h⟩
  · obtain ⟨h1, nf1, hb1⟩ := hb_on_at h1
    by_cases hE0 : E1 = hb_e1
    · rw [if_pos hE0] at h
      subst hE0
      refine hs_callVx (μ' := mX8_meanRetainedBits) (mc := 1) (ms := 6) (rc := 0) (rs := 0) (E := hb_e1) (As := [.int x1]) (rest := [.int (0 : Int32), .ref x2]) (ci := 8) (k := 3) (ln := 1) dL_meanRetainedBits_4 lmL_102 okX8_meanRetainedBits rfl (by decide) rfl (Nat.le_of_ble_eq_true rfl) rfl hb1 (c_X8_meanRetainedBits hl h1) [] ⟨0, 8, 11, 13⟩ [] rfl (fun y hy => by cases hy) rfl (by decide) clL_13 (by decide +kernel) (by decide) (Or.inr ⟨3, rfl, dL_meanRetainedBits_11, rfl⟩) ?_
      refine hs_iconst (v := (1 : Int32)) dL_meanRetainedBits_12 (by decide) ?_
      obtain rfl := Option.some.inj h
      exact hs_ireturn dL_meanRetainedBits_13 rfl (by rfl) (fun h => by cases h)
    rw [if_neg hE0] at h
    cases h
  obtain ⟨h1, nf1, hb1⟩ := hb_on_at h1
  refine hs_callVl (μ' := mX8_meanRetainedBits) (mc := 1) (ms := 6) (rc := 0) (rs := 0) (As := [.int x1]) (rest := [.int (0 : Int32), .ref x2]) (ci := 8) dL_meanRetainedBits_4 lmL_102 okX8_meanRetainedBits rfl (by decide) rfl (Nat.le_of_ble_eq_true rfl) rfl hb1 (c_X8_meanRetainedBits hl h1) ?_
  obtain ⟨r2, h2, h⟩ := hb_bind h
  refine hs_last dL_meanRetainedBits_7 h2 ?_
  refine hs_goto (tgt := 14) dL_meanRetainedBits_8 (by decide) ?_
  refine hs_iconst (v := (0 : Int32)) dL_meanRetainedBits_14 (by decide) ?_
  obtain rfl := Option.some.inj h
  exact hs_ireturn dL_meanRetainedBits_15 rfl (by rfl) (fun _ => rfl)
def mL_shareBits : hb_Y := (yL_shareBits, cL_shareBits, 4, (some .int), [(0, 9, 12, 13)], false)
set_option maxHeartbeats 4000000 in
set_option maxRecDepth 20000 in
theorem c_L_shareBits {G : hb_G} {l : Launch} (hl : l.stackTraces = false) {x0 : Nat} {x1 : Int32} {x2 : Nat} {σ : hb_M} {r : (Int32 × hb_M)} (h : f_L_shareBits x0 x1 x2 σ = some r) : hb_CallX G l true 5 1 6 mL_shareBits [.ref x0, .int x1, .ref x2] σ (.inl (some (.int r.1)), r.2) := by
  refine hb_metX (by decide) (Nat.le_of_ble_eq_true rfl) ?_
  unfold f_L_shareBits at h
  refine hs_aload_n dL_shareBits_0 2 rfl ?_
  refine hs_iconst (v := (0 : Int32)) dL_shareBits_1 (by decide) ?_
  refine hs_aload_n dL_shareBits_2 0 rfl ?_
  refine hs_iload_n dL_shareBits_3 1 rfl ?_
  rcases hb_xc_at h with ⟨E1, r1, h1, h⟩ | ⟨v1, r1, h1, h⟩
  · obtain ⟨h1, nf1, hb1⟩ := hb_on_at h1
    by_cases hE0 : E1 = hb_e1
    · rw [if_pos hE0] at h
      subst hE0
      refine hs_callVx (μ' := mX8_shareBits) (mc := 1) (ms := 6) (rc := 0) (rs := 0) (E := hb_e1) (As := [.int x1]) (rest := [.int (0 : Int32), .ref x2]) (ci := 8) (k := 3) (ln := 1) dL_shareBits_4 lmL_106 okX8_shareBits rfl (by decide) rfl (Nat.le_of_ble_eq_true rfl) rfl hb1 (c_X8_shareBits hl h1) [] ⟨0, 9, 12, 13⟩ [] rfl (fun y hy => by cases hy) rfl (by decide) clL_13 (by decide +kernel) (by decide) (Or.inr ⟨3, rfl, dL_shareBits_12, rfl⟩) ?_
      refine hs_iconst (v := (1 : Int32)) dL_shareBits_13 (by decide) ?_
      obtain rfl := Option.some.inj h
      exact hs_ireturn dL_shareBits_14 rfl (by rfl) (fun h => by cases h)
    rw [if_neg hE0] at h
    cases h
  obtain ⟨h1, nf1, hb1⟩ := hb_on_at h1
  refine hs_callVi (μ' := mX8_shareBits) (mc := 1) (ms := 6) (rc := 0) (rs := 0) (As := [.int x1]) (rest := [.int (0 : Int32), .ref x2]) (ci := 8) dL_shareBits_4 lmL_106 okX8_shareBits rfl (by decide) rfl (Nat.le_of_ble_eq_true rfl) rfl hb1 (c_X8_shareBits hl h1) ?_
  refine hs_i2l dL_shareBits_7 ?_
  obtain ⟨r2, h2, h⟩ := hb_bind h
  refine hs_last dL_shareBits_8 h2 ?_
  refine hs_goto (tgt := 15) dL_shareBits_9 (by decide) ?_
  refine hs_iconst (v := (0 : Int32)) dL_shareBits_15 (by decide) ?_
  obtain rfl := Option.some.inj h
  exact hs_ireturn dL_shareBits_16 rfl (by rfl) (fun _ => rfl)
def mL_suspectAt : hb_Y := (yL_suspectAt, cL_suspectAt, 5, (some .int), [(0, 10, 13, 15)], false)
set_option maxHeartbeats 4000000 in
set_option maxRecDepth 20000 in
theorem c_L_suspectAt {G : hb_G} {l : Launch} (hl : l.stackTraces = false) {x0 : Nat} {x1 : Int32} {x2 : Int32} {x3 : Nat} {σ : hb_M} {r : (Int32 × hb_M)} (h : f_L_suspectAt x0 x1 x2 x3 σ = some r) : hb_CallX G l true 5 1 6 mL_suspectAt [.ref x0, .int x1, .int x2, .ref x3] σ (.inl (some (.int r.1)), r.2) := by
  refine hb_metX (by decide) (Nat.le_of_ble_eq_true rfl) ?_
  unfold f_L_suspectAt at h
  refine hs_aload_n dL_suspectAt_0 3 rfl ?_
  refine hs_iconst (v := (0 : Int32)) dL_suspectAt_1 (by decide) ?_
  refine hs_aload_n dL_suspectAt_2 0 rfl ?_
  refine hs_iload_n dL_suspectAt_3 1 rfl ?_
  refine hs_iload_n dL_suspectAt_4 2 rfl ?_
  rcases hb_xc_at h with ⟨E1, r1, h1, h⟩ | ⟨v1, r1, h1, h⟩
  · obtain ⟨h1, nf1, hb1⟩ := hb_on_at h1
    by_cases hE0 : E1 = hb_e2
    · rw [if_pos hE0] at h
      subst hE0
      refine hs_callVx (μ' := mX8_suspectAt) (mc := 1) (ms := 6) (rc := 0) (rs := 0) (E := hb_e2) (As := [.int x1, .int x2]) (rest := [.int (0 : Int32), .ref x3]) (ci := 8) (k := 4) (ln := 2) dL_suspectAt_5 lmL_109 okX8_suspectAt rfl (by decide) rfl (Nat.le_of_ble_eq_true rfl) rfl hb1 (c_X8_suspectAt hl h1) [] ⟨0, 10, 13, 15⟩ [] rfl (fun y hy => by cases hy) rfl (by decide) clL_15 (by decide +kernel) (by decide) (Or.inl ⟨dL_suspectAt_13, rfl⟩) ?_
      refine hs_iconst (v := (1 : Int32)) dL_suspectAt_15 (by decide) ?_
      obtain rfl := Option.some.inj h
      exact hs_ireturn dL_suspectAt_16 rfl (by rfl) (fun h => by cases h)
    rw [if_neg hE0] at h
    cases h
  obtain ⟨h1, nf1, hb1⟩ := hb_on_at h1
  refine hs_callVi (μ' := mX8_suspectAt) (mc := 1) (ms := 6) (rc := 0) (rs := 0) (As := [.int x1, .int x2]) (rest := [.int (0 : Int32), .ref x3]) (ci := 8) dL_suspectAt_5 lmL_109 okX8_suspectAt rfl (by decide) rfl (Nat.le_of_ble_eq_true rfl) rfl hb1 (c_X8_suspectAt hl h1) ?_
  refine hs_i2l dL_suspectAt_8 ?_
  obtain ⟨r2, h2, h⟩ := hb_bind h
  refine hs_last dL_suspectAt_9 h2 ?_
  refine hs_goto (tgt := 17) dL_suspectAt_10 (by decide) ?_
  refine hs_iconst (v := (0 : Int32)) dL_suspectAt_17 (by decide) ?_
  obtain rfl := Option.some.inj h
  exact hs_ireturn dL_suspectAt_18 rfl (by rfl) (fun _ => rfl)
def mL_accumulationPoint : hb_Y := (yL_accumulationPoint, cL_accumulationPoint, 5, (some .int), [(0, 10, 13, 13), (0, 10, 17, 15), (0, 10, 21, 17)], false)
set_option maxHeartbeats 4000000 in
set_option maxRecDepth 20000 in
theorem c_L_accumulationPoint {G : hb_G} {l : Launch} (hl : l.stackTraces = false) {x0 : Nat} {x1 : Int32} {x2 : Int32} {x3 : Nat} {σ : hb_M} {r : (Int32 × hb_M)} (h : f_L_accumulationPoint x0 x1 x2 x3 σ = some r) : hb_CallX G l true 5 3 18 mL_accumulationPoint [.ref x0, .int x1, .int x2, .ref x3] σ (.inl (some (.int r.1)), r.2) := by
  refine hb_metX (by decide) (Nat.le_of_ble_eq_true rfl) ?_
  unfold f_L_accumulationPoint at h
  refine hs_aload_n dL_accumulationPoint_0 3 rfl ?_
  refine hs_iconst (v := (0 : Int32)) dL_accumulationPoint_1 (by decide) ?_
  refine hs_aload_n dL_accumulationPoint_2 0 rfl ?_
  refine hs_iload_n dL_accumulationPoint_3 1 rfl ?_
  refine hs_iload_n dL_accumulationPoint_4 2 rfl ?_
  rcases hb_xc_at h with ⟨E1, r1, h1, h⟩ | ⟨v1, r1, h1, h⟩
  · obtain ⟨h1, nf1, hb1⟩ := hb_on_at h1
    by_cases hE0 : E1 = hb_e1
    · rw [if_pos hE0] at h
      subst hE0
      refine hs_callVx (μ' := mX8_accumulationPoint) (mc := 3) (ms := 18) (rc := 0) (rs := 0) (E := hb_e1) (As := [.int x1, .int x2]) (rest := [.int (0 : Int32), .ref x3]) (ci := 8) (k := 4) (ln := 2) dL_accumulationPoint_5 lmL_112 okX8_accumulationPoint rfl (by decide) rfl (Nat.le_of_ble_eq_true rfl) rfl hb1 (c_X8_accumulationPoint hl h1) [] ⟨0, 10, 13, 13⟩ [⟨0, 10, 17, 15⟩, ⟨0, 10, 21, 17⟩] rfl (fun y hy => by cases hy) rfl (by decide) clL_13 (by decide +kernel) (by decide) (Or.inl ⟨dL_accumulationPoint_13, rfl⟩) ?_
      refine hs_iconst (v := (1 : Int32)) dL_accumulationPoint_15 (by decide) ?_
      obtain rfl := Option.some.inj h
      exact hs_ireturn dL_accumulationPoint_16 rfl (by rfl) (fun h => by cases h)
    rw [if_neg hE0] at h
    by_cases hE1 : E1 = hb_e2
    · rw [if_pos hE1] at h
      subst hE1
      refine hs_callVx (μ' := mX8_accumulationPoint) (mc := 3) (ms := 18) (rc := 0) (rs := 0) (E := hb_e2) (As := [.int x1, .int x2]) (rest := [.int (0 : Int32), .ref x3]) (ci := 8) (k := 4) (ln := 2) dL_accumulationPoint_5 lmL_112 okX8_accumulationPoint rfl (by decide) rfl (Nat.le_of_ble_eq_true rfl) rfl hb1 (c_X8_accumulationPoint hl h1) [⟨0, 10, 13, 13⟩] ⟨0, 10, 17, 15⟩ [⟨0, 10, 21, 17⟩] rfl (by simp only [List.mem_cons, List.not_mem_nil, or_false, forall_eq_or_imp, forall_eq]; exact Or.inr ⟨by decide, hb_e1, clL_13, by decide +kernel⟩) rfl (by decide) clL_15 (by decide +kernel) (by decide) (Or.inl ⟨dL_accumulationPoint_17, rfl⟩) ?_
      refine hs_iconst (v := (2 : Int32)) dL_accumulationPoint_19 (by decide) ?_
      obtain rfl := Option.some.inj h
      exact hs_ireturn dL_accumulationPoint_20 rfl (by rfl) (fun h => by cases h)
    rw [if_neg hE1] at h
    by_cases hE2 : E1 = hb_e3
    · rw [if_pos hE2] at h
      subst hE2
      refine hs_callVx (μ' := mX8_accumulationPoint) (mc := 3) (ms := 18) (rc := 0) (rs := 0) (E := hb_e3) (As := [.int x1, .int x2]) (rest := [.int (0 : Int32), .ref x3]) (ci := 8) (k := 4) (ln := 2) dL_accumulationPoint_5 lmL_112 okX8_accumulationPoint rfl (by decide) rfl (Nat.le_of_ble_eq_true rfl) rfl hb1 (c_X8_accumulationPoint hl h1) [⟨0, 10, 13, 13⟩, ⟨0, 10, 17, 15⟩] ⟨0, 10, 21, 17⟩ [] rfl (by simp only [List.mem_cons, List.not_mem_nil, or_false, forall_eq_or_imp, forall_eq]; exact ⟨Or.inr ⟨by decide, hb_e1, clL_13, by decide +kernel⟩, Or.inr ⟨by decide, hb_e2, clL_15, by decide +kernel⟩⟩) rfl (by decide) clL_17 (by decide +kernel) (by decide) (Or.inl ⟨dL_accumulationPoint_21, rfl⟩) ?_
      refine hs_iconst (v := (3 : Int32)) dL_accumulationPoint_23 (by decide) ?_
      obtain rfl := Option.some.inj h
      exact hs_ireturn dL_accumulationPoint_24 rfl (by rfl) (fun h => by cases h)
    rw [if_neg hE2] at h
    cases h
  obtain ⟨h1, nf1, hb1⟩ := hb_on_at h1
  refine hs_callVi (μ' := mX8_accumulationPoint) (mc := 3) (ms := 18) (rc := 0) (rs := 0) (As := [.int x1, .int x2]) (rest := [.int (0 : Int32), .ref x3]) (ci := 8) dL_accumulationPoint_5 lmL_112 okX8_accumulationPoint rfl (by decide) rfl (Nat.le_of_ble_eq_true rfl) rfl hb1 (c_X8_accumulationPoint hl h1) ?_
  refine hs_i2l dL_accumulationPoint_8 ?_
  obtain ⟨r2, h2, h⟩ := hb_bind h
  refine hs_last dL_accumulationPoint_9 h2 ?_
  refine hs_goto (tgt := 25) dL_accumulationPoint_10 (by decide) ?_
  refine hs_iconst (v := (0 : Int32)) dL_accumulationPoint_25 (by decide) ?_
  obtain rfl := Option.some.inj h
  exact hs_ireturn dL_accumulationPoint_26 rfl (by rfl) (fun _ => rfl)
def mL_append : hb_Y := (yL_append, cL_append, 4, (some .int), [(0, 9, 12, 15), (0, 9, 15, 17)], false)
set_option maxHeartbeats 4000000 in
set_option maxRecDepth 20000 in
theorem c_L_append {G : hb_G} {l : Launch} (hl : l.stackTraces = false) {x0 : Nat} {x1 : Int32} {x2 : Nat} {σ : hb_M} {r : (Int32 × hb_M)} (h : f_L_append x0 x1 x2 σ = some r) : hb_CallX G l true 2 2 12 mL_append [.ref x0, .int x1, .ref x2] σ (.inl (some (.int r.1)), r.2) := by
  refine hb_metX (by decide) (Nat.le_of_ble_eq_true rfl) ?_
  unfold f_L_append at h
  refine hs_aload_n dL_append_0 2 rfl ?_
  refine hs_iconst (v := (0 : Int32)) dL_append_1 (by decide) ?_
  refine hs_aload_n dL_append_2 0 rfl ?_
  refine hs_iload_n dL_append_3 1 rfl ?_
  rcases hb_xc_at h with ⟨E1, r1, h1, h⟩ | ⟨v1, r1, h1, h⟩
  · obtain ⟨h1, nf1, hb1⟩ := hb_on_at h1
    by_cases hE0 : E1 = hb_e2
    · rw [if_pos hE0] at h
      subst hE0
      refine hs_callVx (μ' := mX8_append) (mc := 2) (ms := 12) (rc := 0) (rs := 0) (E := hb_e2) (As := [.int x1]) (rest := [.int (0 : Int32), .ref x2]) (ci := 8) (k := 3) (ln := 1) dL_append_4 lmL_115 okX8_append rfl (by decide) rfl (Nat.le_of_ble_eq_true rfl) rfl hb1 (c_X8_append hl h1) [] ⟨0, 9, 12, 15⟩ [⟨0, 9, 15, 17⟩] rfl (fun y hy => by cases hy) rfl (by decide) clL_15 (by decide +kernel) (by decide) (Or.inr ⟨3, rfl, dL_append_12, rfl⟩) ?_
      refine hs_iconst (v := (1 : Int32)) dL_append_13 (by decide) ?_
      obtain rfl := Option.some.inj h
      exact hs_ireturn dL_append_14 rfl (by rfl) (fun h => by cases h)
    rw [if_neg hE0] at h
    by_cases hE1 : E1 = hb_e3
    · rw [if_pos hE1] at h
      subst hE1
      refine hs_callVx (μ' := mX8_append) (mc := 2) (ms := 12) (rc := 0) (rs := 0) (E := hb_e3) (As := [.int x1]) (rest := [.int (0 : Int32), .ref x2]) (ci := 8) (k := 3) (ln := 1) dL_append_4 lmL_115 okX8_append rfl (by decide) rfl (Nat.le_of_ble_eq_true rfl) rfl hb1 (c_X8_append hl h1) [⟨0, 9, 12, 15⟩] ⟨0, 9, 15, 17⟩ [] rfl (by simp only [List.mem_cons, List.not_mem_nil, or_false, forall_eq_or_imp, forall_eq]; exact Or.inr ⟨by decide, hb_e2, clL_15, by decide +kernel⟩) rfl (by decide) clL_17 (by decide +kernel) (by decide) (Or.inr ⟨3, rfl, dL_append_15, rfl⟩) ?_
      refine hs_iconst (v := (2 : Int32)) dL_append_16 (by decide) ?_
      obtain rfl := Option.some.inj h
      exact hs_ireturn dL_append_17 rfl (by rfl) (fun h => by cases h)
    rw [if_neg hE1] at h
    cases h
  obtain ⟨h1, nf1, hb1⟩ := hb_on_at h1
  refine hs_callVi (μ' := mX8_append) (mc := 2) (ms := 12) (rc := 0) (rs := 0) (As := [.int x1]) (rest := [.int (0 : Int32), .ref x2]) (ci := 8) dL_append_4 lmL_115 okX8_append rfl (by decide) rfl (Nat.le_of_ble_eq_true rfl) rfl hb1 (c_X8_append hl h1) ?_
  refine hs_i2l dL_append_7 ?_
  obtain ⟨r2, h2, h⟩ := hb_bind h
  refine hs_last dL_append_8 h2 ?_
  refine hs_goto (tgt := 18) dL_append_9 (by decide) ?_
  refine hs_iconst (v := (0 : Int32)) dL_append_18 (by decide) ?_
  obtain rfl := Option.some.inj h
  exact hs_ireturn dL_append_19 rfl (by rfl) (fun _ => rfl)
def mL_take : hb_Y := (yL_take, cL_take, 4, (some .int), [(0, 9, 12, 13)], false)
set_option maxHeartbeats 4000000 in
set_option maxRecDepth 20000 in
theorem c_L_take {G : hb_G} {l : Launch} (hl : l.stackTraces = false) {x0 : Nat} {x1 : Int32} {x2 : Nat} {σ : hb_M} {r : (Int32 × hb_M)} (h : f_L_take x0 x1 x2 σ = some r) : hb_CallX G l true 4 1 6 mL_take [.ref x0, .int x1, .ref x2] σ (.inl (some (.int r.1)), r.2) := by
  refine hb_metX (by decide) (Nat.le_of_ble_eq_true rfl) ?_
  unfold f_L_take at h
  refine hs_aload_n dL_take_0 2 rfl ?_
  refine hs_iconst (v := (0 : Int32)) dL_take_1 (by decide) ?_
  refine hs_aload_n dL_take_2 0 rfl ?_
  refine hs_iload_n dL_take_3 1 rfl ?_
  rcases hb_xc_at h with ⟨E1, r1, h1, h⟩ | ⟨v1, r1, h1, h⟩
  · obtain ⟨h1, nf1, hb1⟩ := hb_on_at h1
    by_cases hE0 : E1 = hb_e1
    · rw [if_pos hE0] at h
      subst hE0
      refine hs_callVx (μ' := mX8_take) (mc := 1) (ms := 6) (rc := 0) (rs := 0) (E := hb_e1) (As := [.int x1]) (rest := [.int (0 : Int32), .ref x2]) (ci := 8) (k := 3) (ln := 1) dL_take_4 lmL_118 okX8_take rfl (by decide) rfl (Nat.le_of_ble_eq_true rfl) rfl hb1 (c_X8_take hl h1) [] ⟨0, 9, 12, 13⟩ [] rfl (fun y hy => by cases hy) rfl (by decide) clL_13 (by decide +kernel) (by decide) (Or.inr ⟨3, rfl, dL_take_12, rfl⟩) ?_
      refine hs_iconst (v := (1 : Int32)) dL_take_13 (by decide) ?_
      obtain rfl := Option.some.inj h
      exact hs_ireturn dL_take_14 rfl (by rfl) (fun h => by cases h)
    rw [if_neg hE0] at h
    cases h
  obtain ⟨h1, nf1, hb1⟩ := hb_on_at h1
  refine hs_callVi (μ' := mX8_take) (mc := 1) (ms := 6) (rc := 0) (rs := 0) (As := [.int x1]) (rest := [.int (0 : Int32), .ref x2]) (ci := 8) dL_take_4 lmL_118 okX8_take rfl (by decide) rfl (Nat.le_of_ble_eq_true rfl) rfl hb1 (c_X8_take hl h1) ?_
  refine hs_i2l dL_take_7 ?_
  obtain ⟨r2, h2, h⟩ := hb_bind h
  refine hs_last dL_take_8 h2 ?_
  refine hs_goto (tgt := 15) dL_take_9 (by decide) ?_
  refine hs_iconst (v := (0 : Int32)) dL_take_15 (by decide) ?_
  obtain rfl := Option.some.inj h
  exact hs_ireturn dL_take_16 rfl (by rfl) (fun _ => rfl)
def mL_compare : hb_Y := (yL_compare, cL_compare, 5, (some .int), [(0, 10, 13, 13), (0, 10, 17, 15), (0, 10, 21, 17)], false)
set_option maxHeartbeats 4000000 in
set_option maxRecDepth 20000 in
theorem c_L_compare {G : hb_G} {l : Launch} (hl : l.stackTraces = false) {x0 : Nat} {x1 : Int32} {x2 : Int32} {x3 : Nat} {σ : hb_M} {r : (Int32 × hb_M)} (h : f_L_compare x0 x1 x2 x3 σ = some r) : hb_CallX G l true 7 2 12 mL_compare [.ref x0, .int x1, .int x2, .ref x3] σ (.inl (some (.int r.1)), r.2) := by
  refine hb_metX (by decide) (Nat.le_of_ble_eq_true rfl) ?_
  unfold f_L_compare at h
  refine hs_aload_n dL_compare_0 3 rfl ?_
  refine hs_iconst (v := (0 : Int32)) dL_compare_1 (by decide) ?_
  refine hs_aload_n dL_compare_2 0 rfl ?_
  refine hs_iload_n dL_compare_3 1 rfl ?_
  refine hs_iload_n dL_compare_4 2 rfl ?_
  rcases hb_xc_at h with ⟨E1, r1, h1, h⟩ | ⟨v1, r1, h1, h⟩
  · obtain ⟨h1, nf1, hb1⟩ := hb_on_at h1
    by_cases hE0 : E1 = hb_e1
    · rw [if_pos hE0] at h
      subst hE0
      refine hs_callVx (μ' := mX8_compare) (mc := 2) (ms := 12) (rc := 0) (rs := 0) (E := hb_e1) (As := [.int x1, .int x2]) (rest := [.int (0 : Int32), .ref x3]) (ci := 8) (k := 4) (ln := 2) dL_compare_5 lmL_121 okX8_compare rfl (by decide) rfl (Nat.le_of_ble_eq_true rfl) rfl hb1 (c_X8_compare hl h1) [] ⟨0, 10, 13, 13⟩ [⟨0, 10, 17, 15⟩, ⟨0, 10, 21, 17⟩] rfl (fun y hy => by cases hy) rfl (by decide) clL_13 (by decide +kernel) (by decide) (Or.inl ⟨dL_compare_13, rfl⟩) ?_
      refine hs_iconst (v := (1 : Int32)) dL_compare_15 (by decide) ?_
      obtain rfl := Option.some.inj h
      exact hs_ireturn dL_compare_16 rfl (by rfl) (fun h => by cases h)
    rw [if_neg hE0] at h
    by_cases hE1 : E1 = hb_e2
    · rw [if_pos hE1] at h
      subst hE1
      refine hs_callVx (μ' := mX8_compare) (mc := 2) (ms := 12) (rc := 0) (rs := 0) (E := hb_e2) (As := [.int x1, .int x2]) (rest := [.int (0 : Int32), .ref x3]) (ci := 8) (k := 4) (ln := 2) dL_compare_5 lmL_121 okX8_compare rfl (by decide) rfl (Nat.le_of_ble_eq_true rfl) rfl hb1 (c_X8_compare hl h1) [⟨0, 10, 13, 13⟩] ⟨0, 10, 17, 15⟩ [⟨0, 10, 21, 17⟩] rfl (by simp only [List.mem_cons, List.not_mem_nil, or_false, forall_eq_or_imp, forall_eq]; exact Or.inr ⟨by decide, hb_e1, clL_13, by decide +kernel⟩) rfl (by decide) clL_15 (by decide +kernel) (by decide) (Or.inl ⟨dL_compare_17, rfl⟩) ?_
      refine hs_iconst (v := (2 : Int32)) dL_compare_19 (by decide) ?_
      obtain rfl := Option.some.inj h
      exact hs_ireturn dL_compare_20 rfl (by rfl) (fun h => by cases h)
    rw [if_neg hE1] at h
    by_cases hE2 : E1 = hb_e3
    · rw [if_pos hE2] at h
      subst hE2
      refine hs_callVx (μ' := mX8_compare) (mc := 2) (ms := 12) (rc := 0) (rs := 0) (E := hb_e3) (As := [.int x1, .int x2]) (rest := [.int (0 : Int32), .ref x3]) (ci := 8) (k := 4) (ln := 2) dL_compare_5 lmL_121 okX8_compare rfl (by decide) rfl (Nat.le_of_ble_eq_true rfl) rfl hb1 (c_X8_compare hl h1) [⟨0, 10, 13, 13⟩, ⟨0, 10, 17, 15⟩] ⟨0, 10, 21, 17⟩ [] rfl (by simp only [List.mem_cons, List.not_mem_nil, or_false, forall_eq_or_imp, forall_eq]; exact ⟨Or.inr ⟨by decide, hb_e1, clL_13, by decide +kernel⟩, Or.inr ⟨by decide, hb_e2, clL_15, by decide +kernel⟩⟩) rfl (by decide) clL_17 (by decide +kernel) (by decide) (Or.inl ⟨dL_compare_21, rfl⟩) ?_
      refine hs_iconst (v := (3 : Int32)) dL_compare_23 (by decide) ?_
      obtain rfl := Option.some.inj h
      exact hs_ireturn dL_compare_24 rfl (by rfl) (fun h => by cases h)
    rw [if_neg hE2] at h
    cases h
  obtain ⟨h1, nf1, hb1⟩ := hb_on_at h1
  refine hs_callVi (μ' := mX8_compare) (mc := 2) (ms := 12) (rc := 0) (rs := 0) (As := [.int x1, .int x2]) (rest := [.int (0 : Int32), .ref x3]) (ci := 8) dL_compare_5 lmL_121 okX8_compare rfl (by decide) rfl (Nat.le_of_ble_eq_true rfl) rfl hb1 (c_X8_compare hl h1) ?_
  refine hs_i2l dL_compare_8 ?_
  obtain ⟨r2, h2, h⟩ := hb_bind h
  refine hs_last dL_compare_9 h2 ?_
  refine hs_goto (tgt := 25) dL_compare_10 (by decide) ?_
  refine hs_iconst (v := (0 : Int32)) dL_compare_25 (by decide) ?_
  obtain rfl := Option.some.inj h
  exact hs_ireturn dL_compare_26 rfl (by rfl) (fun _ => rfl)
def mL_growth : hb_Y := (yL_growth, cL_growth, 5, (some .int), [(0, 10, 13, 13), (0, 10, 17, 17)], false)
set_option maxHeartbeats 4000000 in
set_option maxRecDepth 20000 in
theorem c_L_growth {G : hb_G} {l : Launch} (hl : l.stackTraces = false) {x0 : Nat} {x1 : Int32} {x2 : Int32} {x3 : Nat} {σ : hb_M} {r : (Int32 × hb_M)} (h : f_L_growth x0 x1 x2 x3 σ = some r) : hb_CallX G l true 3 2 12 mL_growth [.ref x0, .int x1, .int x2, .ref x3] σ (.inl (some (.int r.1)), r.2) := by
  refine hb_metX (by decide) (Nat.le_of_ble_eq_true rfl) ?_
  unfold f_L_growth at h
  refine hs_aload_n dL_growth_0 3 rfl ?_
  refine hs_iconst (v := (0 : Int32)) dL_growth_1 (by decide) ?_
  refine hs_aload_n dL_growth_2 0 rfl ?_
  refine hs_iload_n dL_growth_3 1 rfl ?_
  refine hs_iload_n dL_growth_4 2 rfl ?_
  rcases hb_xc_at h with ⟨E1, r1, h1, h⟩ | ⟨v1, r1, h1, h⟩
  · obtain ⟨h1, nf1, hb1⟩ := hb_on_at h1
    by_cases hE0 : E1 = hb_e1
    · rw [if_pos hE0] at h
      subst hE0
      refine hs_callVx (μ' := mX8_growth) (mc := 2) (ms := 12) (rc := 0) (rs := 0) (E := hb_e1) (As := [.int x1, .int x2]) (rest := [.int (0 : Int32), .ref x3]) (ci := 8) (k := 4) (ln := 2) dL_growth_5 lmL_124 okX8_growth rfl (by decide) rfl (Nat.le_of_ble_eq_true rfl) rfl hb1 (c_X8_growth hl h1) [] ⟨0, 10, 13, 13⟩ [⟨0, 10, 17, 17⟩] rfl (fun y hy => by cases hy) rfl (by decide) clL_13 (by decide +kernel) (by decide) (Or.inl ⟨dL_growth_13, rfl⟩) ?_
      refine hs_iconst (v := (1 : Int32)) dL_growth_15 (by decide) ?_
      obtain rfl := Option.some.inj h
      exact hs_ireturn dL_growth_16 rfl (by rfl) (fun h => by cases h)
    rw [if_neg hE0] at h
    by_cases hE1 : E1 = hb_e3
    · rw [if_pos hE1] at h
      subst hE1
      refine hs_callVx (μ' := mX8_growth) (mc := 2) (ms := 12) (rc := 0) (rs := 0) (E := hb_e3) (As := [.int x1, .int x2]) (rest := [.int (0 : Int32), .ref x3]) (ci := 8) (k := 4) (ln := 2) dL_growth_5 lmL_124 okX8_growth rfl (by decide) rfl (Nat.le_of_ble_eq_true rfl) rfl hb1 (c_X8_growth hl h1) [⟨0, 10, 13, 13⟩] ⟨0, 10, 17, 17⟩ [] rfl (by simp only [List.mem_cons, List.not_mem_nil, or_false, forall_eq_or_imp, forall_eq]; exact Or.inr ⟨by decide, hb_e1, clL_13, by decide +kernel⟩) rfl (by decide) clL_17 (by decide +kernel) (by decide) (Or.inl ⟨dL_growth_17, rfl⟩) ?_
      refine hs_iconst (v := (2 : Int32)) dL_growth_19 (by decide) ?_
      obtain rfl := Option.some.inj h
      exact hs_ireturn dL_growth_20 rfl (by rfl) (fun h => by cases h)
    rw [if_neg hE1] at h
    cases h
  obtain ⟨h1, nf1, hb1⟩ := hb_on_at h1
  refine hs_callVi (μ' := mX8_growth) (mc := 2) (ms := 12) (rc := 0) (rs := 0) (As := [.int x1, .int x2]) (rest := [.int (0 : Int32), .ref x3]) (ci := 8) dL_growth_5 lmL_124 okX8_growth rfl (by decide) rfl (Nat.le_of_ble_eq_true rfl) rfl hb1 (c_X8_growth hl h1) ?_
  refine hs_i2l dL_growth_8 ?_
  obtain ⟨r2, h2, h⟩ := hb_bind h
  refine hs_last dL_growth_9 h2 ?_
  refine hs_goto (tgt := 21) dL_growth_10 (by decide) ?_
  refine hs_iconst (v := (0 : Int32)) dL_growth_21 (by decide) ?_
  obtain rfl := Option.some.inj h
  exact hs_ireturn dL_growth_22 rfl (by rfl) (fun _ => rfl)
def mL_undo : hb_Y := (yL_undo, cL_undo, 3, (some .int), [(0, 8, 11, 17)], false)
set_option maxHeartbeats 4000000 in
set_option maxRecDepth 20000 in
theorem c_L_undo {G : hb_G} {l : Launch} (hl : l.stackTraces = false) {x0 : Nat} {x1 : Nat} {σ : hb_M} {r : (Int32 × hb_M)} (h : f_L_undo x0 x1 σ = some r) : hb_CallX G l true 2 1 6 mL_undo [.ref x0, .ref x1] σ (.inl (some (.int r.1)), r.2) := by
  refine hb_metX (by decide) (Nat.le_of_ble_eq_true rfl) ?_
  unfold f_L_undo at h
  refine hs_aload_n dL_undo_0 1 rfl ?_
  refine hs_iconst (v := (0 : Int32)) dL_undo_1 (by decide) ?_
  refine hs_aload_n dL_undo_2 0 rfl ?_
  rcases hb_xc_at h with ⟨E1, r1, h1, h⟩ | ⟨v1, r1, h1, h⟩
  · obtain ⟨h1, nf1, hb1⟩ := hb_on_at h1
    by_cases hE0 : E1 = hb_e3
    · rw [if_pos hE0] at h
      subst hE0
      refine hs_callVx (μ' := mX8_undo) (mc := 1) (ms := 6) (rc := 0) (rs := 0) (E := hb_e3) (As := []) (rest := [.int (0 : Int32), .ref x1]) (ci := 8) (k := 2) (ln := 1) dL_undo_3 lmL_127 okX8_undo rfl (by decide) rfl (Nat.le_of_ble_eq_true rfl) rfl hb1 (c_X8_undo hl h1) [] ⟨0, 8, 11, 17⟩ [] rfl (fun y hy => by cases hy) rfl (by decide) clL_17 (by decide +kernel) (by decide) (Or.inr ⟨2, rfl, dL_undo_11, rfl⟩) ?_
      refine hs_iconst (v := (1 : Int32)) dL_undo_12 (by decide) ?_
      obtain rfl := Option.some.inj h
      exact hs_ireturn dL_undo_13 rfl (by rfl) (fun h => by cases h)
    rw [if_neg hE0] at h
    cases h
  obtain ⟨h1, nf1, hb1⟩ := hb_on_at h1
  refine hs_callVi (μ' := mX8_undo) (mc := 1) (ms := 6) (rc := 0) (rs := 0) (As := []) (rest := [.int (0 : Int32), .ref x1]) (ci := 8) dL_undo_3 lmL_127 okX8_undo rfl (by decide) rfl (Nat.le_of_ble_eq_true rfl) rfl hb1 (c_X8_undo hl h1) ?_
  refine hs_i2l dL_undo_6 ?_
  obtain ⟨r2, h2, h⟩ := hb_bind h
  refine hs_last dL_undo_7 h2 ?_
  refine hs_goto (tgt := 14) dL_undo_8 (by decide) ?_
  refine hs_iconst (v := (0 : Int32)) dL_undo_14 (by decide) ?_
  obtain rfl := Option.some.inj h
  exact hs_ireturn dL_undo_15 rfl (by rfl) (fun _ => rfl)
