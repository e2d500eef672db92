def mX9_matchSize : hb_Y := (yX9_matchSize, cX9_matchSize, 3, (some .int), [], false)
set_option maxHeartbeats 4000000 in
set_option maxRecDepth 20000 in
theorem c_X9_matchSize_b43 {G : hb_G} {l : Launch} {z : Bool}  {s0 : Nat} {s1 : Int64} {σ : hb_M} {r : (Int32 × hb_M)} (h : f_X9_matchSize_b43 s0 s1 σ = some r) : hb_T G l z mX9_matchSize 9 0 0 43 [] [.long s1, .ref s0] σ (.inl (some (.int r.1)), r.2) := by
  unfold f_X9_matchSize_b43 at h
  obtain ⟨r1, h1, h⟩ := hb_bind h
  obtain ⟨h1, nf1, hb1⟩ := hb_on_at h1
  refine hs_callVl (μ' := mX9_sizes) (mc := 0) (ms := 0) (rc := 0) (rs := 0) (As := [.long s1]) (rest := []) (ci := 9) dX9_matchSize_43 lmX9_204 okX9_sizes rfl (by decide) rfl (Nat.le_of_ble_eq_true rfl) rfl hb1 (c_X9_sizes h1) ?_
  refine hs_l2i dX9_matchSize_46 ?_
  obtain rfl := Option.some.inj h
  exact hs_ireturn dX9_matchSize_47 rfl (by rfl) (fun _ => rfl)
set_option maxHeartbeats 4000000 in
set_option maxRecDepth 20000 in
theorem c_X9_matchSize {G : hb_G} {l : Launch} {z : Bool} {x0 : Nat} {x1 : Int32} {σ : hb_M} {r : (Int32 × hb_M)} (h : f_X9_matchSize x0 x1 σ = some r) : hb_Call G l z 9 0 0 mX9_matchSize [.ref x0, .int x1] σ (.inl (some (.int r.1)), r.2) := by
  refine hb_met (by decide) (Nat.le_of_ble_eq_true rfl) ?_
  unfold f_X9_matchSize at h
  refine hs_aload_n dX9_matchSize_0 0 rfl ?_
  obtain ⟨r1, h1, h⟩ := hb_bind h
  obtain ⟨h1, nf1, hb1⟩ := hb_on_at h1
  refine hs_callVi (μ' := mX9_laysMatches) (mc := 0) (ms := 0) (rc := 0) (rs := 0) (As := []) (rest := []) (ci := 9) dX9_matchSize_1 lmX9_298 okX9_laysMatches rfl (by decide) rfl (Nat.le_of_ble_eq_true rfl) rfl hb1 (c_X9_laysMatches h1) ?_
  refine hs_istore_n (lv' := [(2, .int r1.1), (0, .ref x0), (1, .int x1)]) dX9_matchSize_4 (by decide) rfl ?_
  refine hs_iload_n dX9_matchSize_5 0 rfl ?_
  refine hs_if_ge (tgt := 11) dX9_matchSize_6 (by decide) (fun hc2 => ?_) (fun hc2 => ?_)
  · rw [if_pos hc2] at h
    refine hs_aload_n dX9_matchSize_11 1 rfl ?_
    refine hs_iload_n dX9_matchSize_12 2 rfl ?_
    refine hs_if_eq (tgt := 39) dX9_matchSize_13 (by decide) (fun hc3 => ?_) (fun hc3 => ?_)
    · rw [if_pos hc3] at h
      refine hs_aload_n dX9_matchSize_39 1 rfl ?_
      obtain ⟨r4, h4, h⟩ := hb_bind h
      refine hs_getL dX9_matchSize_40 lkX9_292 rfl h4 ?_
      refine hs_sub (lv' := []) [] rfl ?_
      exact c_X9_matchSize_b43 h
    · rw [if_neg hc3] at h
      refine hs_aload_n dX9_matchSize_16 1 rfl ?_
      obtain ⟨r5, h5, h⟩ := hb_bind h
      refine hs_getL dX9_matchSize_17 lkX9_178 rfl h5 ?_
      refine hs_aload_n dX9_matchSize_20 1 rfl ?_
      refine hs_aload_n dX9_matchSize_21 1 rfl ?_
      obtain ⟨r6, h6, h⟩ := hb_bind h
      refine hs_getL dX9_matchSize_22 lkX9_292 rfl h6 ?_
      refine hs_iconst (v := (-1 : Int32)) dX9_matchSize_25 (by decide) ?_
      refine hs_iconst (v := (-1 : Int32)) dX9_matchSize_26 (by decide) ?_
      refine hs_iconst (v := (-1 : Int32)) dX9_matchSize_27 (by decide) ?_
      obtain ⟨r7, h7, h⟩ := hb_bind h
      obtain ⟨h7, nf7, hb7⟩ := hb_on_at h7
      refine hs_callVl (μ' := mX9_reached) (mc := 0) (ms := 0) (rc := 0) (rs := 0) (As := [.long r6, .int (-1 : Int32), .int (-1 : Int32), .int (-1 : Int32)]) (rest := [.long r5, .ref x0]) (ci := 9) dX9_matchSize_28 lmX9_138 okX9_reached rfl (by decide) rfl (Nat.le_of_ble_eq_true rfl) rfl hb7 (c_X9_reached h7) ?_
      refine hs_ldc2 (v := (-1 : Int64)) dX9_matchSize_31 wd_1558 ?_
      refine hs_lxor dX9_matchSize_34 ?_
      refine hs_land dX9_matchSize_35 ?_
      refine hs_goto (tgt := 43) dX9_matchSize_36 (by decide) ?_
      refine hs_sub (lv' := []) [] rfl ?_
      exact c_X9_matchSize_b43 h
  · rw [if_neg hc2] at h
    refine hs_iload_n dX9_matchSize_9 0 rfl ?_
    obtain rfl := Option.some.inj h
    exact hs_ireturn dX9_matchSize_10 rfl (by rfl) (fun _ => rfl)
def mX9_isNumber : hb_Y := (yX9_isNumber, cX9_isNumber, 2, (some .boolean), [], false)
theorem okX9_isNumber : hb_okV mX9_isNumber 1 := ⟨⟨hb_w 11 (by decide +kernel) (by decide +kernel), hb_w 1839 (by decide +kernel) (by decide +kernel), ⟨by decide +kernel, by decide +kernel, by decide +kernel⟩, by decide⟩, hb_w 1838 (by decide +kernel) (by decide +kernel), hb_wp (q := (yX9_isNumber, 29)) 86 (by decide +kernel) (by decide +kernel)⟩
set_option maxHeartbeats 4000000 in
set_option maxRecDepth 20000 in
theorem c_X9_isNumber {G : hb_G} {l : Launch} {z : Bool} {x0 : Nat} {x1 : Int32} {σ : hb_M} {r : (Int32 × hb_M)} (h : f_X9_isNumber x0 x1 σ = some r) : hb_Call G l z 2 0 0 mX9_isNumber [.ref x0, .int x1] σ (.inl (some (.int r.1)), r.2) := by
  refine hb_met (by decide) (Nat.le_of_ble_eq_true rfl) ?_
  unfold f_X9_isNumber at h
  refine hs_aload_n dX9_isNumber_0 0 rfl ?_
  refine hs_iload_n dX9_isNumber_1 1 rfl ?_
  obtain ⟨r1, h1, h⟩ := hb_bind h
  obtain ⟨h1, nf1, hb1⟩ := hb_on_at h1
  refine hs_callVi (μ' := mX9_letter) (mc := 0) (ms := 0) (rc := 0) (rs := 0) (As := [.int x1]) (rest := []) (ci := 9) dX9_isNumber_2 lmX9_261 okX9_letter rfl (by decide) rfl (Nat.le_of_ble_eq_true rfl) rfl hb1 (c_X9_letter h1) ?_
  obtain ⟨r2, h2, h⟩ := hb_bind h
  refine hs_callSi (μ' := mX9_isDigit) (mc := 0) (ms := 0) (rc := 0) (rs := 0) (As := [.int r1.1]) (rest := []) dX9_isNumber_5 lmX9_267 okX9_isDigit rfl (by decide) rfl (Nat.le_of_ble_eq_true rfl) (c_X9_isDigit h2) ?_
  refine hs_if_ne (tgt := 13) dX9_isNumber_8 (by decide) (fun hc3 => ?_) (fun hc3 => ?_)
  · rw [if_neg hc3] at h
    refine hs_aload_n dX9_isNumber_13 0 rfl ?_
    refine hs_aload_n dX9_isNumber_14 0 rfl ?_
    refine hs_iload_n dX9_isNumber_15 1 rfl ?_
    obtain ⟨r4, h4, h⟩ := hb_bind h
    obtain ⟨h4, nf4, hb4⟩ := hb_on_at h4
    refine hs_callVi (μ' := mX9_letter) (mc := 0) (ms := 0) (rc := 0) (rs := 0) (As := [.int x1]) (rest := [.ref x0]) (ci := 9) dX9_isNumber_16 lmX9_261 okX9_letter rfl (by decide) rfl (Nat.le_of_ble_eq_true rfl) rfl hb4 (c_X9_letter h4) ?_
    refine hs_bipush (v := (48 : Int32)) dX9_isNumber_19 (by decide) ?_
    refine hs_isub dX9_isNumber_21 ?_
    obtain ⟨r5, h5, h⟩ := hb_bind h
    refine hs_putI dX9_isNumber_22 lpX9_isNumber_301 rfl h5 ?_
    refine hs_aload_n dX9_isNumber_25 0 rfl ?_
    refine hs_iload_n dX9_isNumber_26 1 rfl ?_
    refine hs_iconst (v := (1 : Int32)) dX9_isNumber_27 (by decide) ?_
    refine hs_iadd dX9_isNumber_28 ?_
    obtain ⟨r6, h6, h⟩ := hb_bind h
    refine hs_putI dX9_isNumber_29 lpX9_isNumber_264 rfl h6 ?_
    refine hs_aload_n dX9_isNumber_32 0 rfl ?_
    refine hs_iload_n dX9_isNumber_33 1 rfl ?_
    refine hs_iconst (v := (1 : Int32)) dX9_isNumber_34 (by decide) ?_
    refine hs_iadd dX9_isNumber_35 ?_
    obtain ⟨r7, h7, h⟩ := hb_bind h
    obtain ⟨h7, nf7, hb7⟩ := hb_on_at h7
    refine hs_callVi (μ' := mX9_letter) (mc := 0) (ms := 0) (rc := 0) (rs := 0) (As := [.int (x1 + (1 : Int32))]) (rest := []) (ci := 9) dX9_isNumber_36 lmX9_261 okX9_letter rfl (by decide) rfl (Nat.le_of_ble_eq_true rfl) rfl hb7 (c_X9_letter h7) ?_
    obtain ⟨r8, h8, h⟩ := hb_bind h
    refine hs_callSi (μ' := mX9_isDigit) (mc := 0) (ms := 0) (rc := 0) (rs := 0) (As := [.int r7.1]) (rest := []) dX9_isNumber_39 lmX9_267 okX9_isDigit rfl (by decide) rfl (Nat.le_of_ble_eq_true rfl) (c_X9_isDigit h8) ?_
    refine hs_if_eq (tgt := 74) dX9_isNumber_42 (by decide) (fun hc9 => ?_) (fun hc9 => ?_)
    · rw [if_pos hc9] at h
      refine hs_iconst (v := (1 : Int32)) dX9_isNumber_74 (by decide) ?_
      obtain rfl := Option.some.inj h
      exact hs_ireturn dX9_isNumber_75 rfl (by decide) (fun _ => rfl)
    · rw [if_neg hc9] at h
      refine hs_aload_n dX9_isNumber_45 0 rfl ?_
      refine hs_bipush (v := (10 : Int32)) dX9_isNumber_46 (by decide) ?_
      refine hs_aload_n dX9_isNumber_48 0 rfl ?_
      obtain ⟨r10, h10, h⟩ := hb_bind h
      refine hs_getI dX9_isNumber_49 lkX9_301 rfl h10 ?_
      refine hs_imul dX9_isNumber_52 ?_
      refine hs_aload_n dX9_isNumber_53 0 rfl ?_
      refine hs_iload_n dX9_isNumber_54 1 rfl ?_
      refine hs_iconst (v := (1 : Int32)) dX9_isNumber_55 (by decide) ?_
      refine hs_iadd dX9_isNumber_56 ?_
      obtain ⟨r11, h11, h⟩ := hb_bind h
      obtain ⟨h11, nf11, hb11⟩ := hb_on_at h11
      refine hs_callVi (μ' := mX9_letter) (mc := 0) (ms := 0) (rc := 0) (rs := 0) (As := [.int (x1 + (1 : Int32))]) (rest := [.int ((10 : Int32) * r10), .ref x0]) (ci := 9) dX9_isNumber_57 lmX9_261 okX9_letter rfl (by decide) rfl (Nat.le_of_ble_eq_true rfl) rfl hb11 (c_X9_letter h11) ?_
      refine hs_iadd dX9_isNumber_60 ?_
      refine hs_bipush (v := (48 : Int32)) dX9_isNumber_61 (by decide) ?_
      refine hs_isub dX9_isNumber_63 ?_
      obtain ⟨r12, h12, h⟩ := hb_bind h
      refine hs_putI dX9_isNumber_64 lpX9_isNumber_301 rfl h12 ?_
      refine hs_aload_n dX9_isNumber_67 0 rfl ?_
      refine hs_iload_n dX9_isNumber_68 1 rfl ?_
      refine hs_iconst (v := (2 : Int32)) dX9_isNumber_69 (by decide) ?_
      refine hs_iadd dX9_isNumber_70 ?_
      obtain ⟨r13, h13, h⟩ := hb_bind h
      refine hs_putI dX9_isNumber_71 lpX9_isNumber_264 rfl h13 ?_
      refine hs_iconst (v := (1 : Int32)) dX9_isNumber_74 (by decide) ?_
      obtain rfl := Option.some.inj h
      exact hs_ireturn dX9_isNumber_75 rfl (by decide) (fun _ => rfl)
  · rw [if_pos hc3] at h
    refine hs_iconst (v := (0 : Int32)) dX9_isNumber_11 (by decide) ?_
    obtain rfl := Option.some.inj h
    exact hs_ireturn dX9_isNumber_12 rfl (by decide) (fun _ => rfl)
def mX9_command : hb_Y := (yX9_command, cX9_command, 7, (some .int), [], false)
theorem okX9_command : hb_okV mX9_command 1 := ⟨⟨hb_w 11 (by decide +kernel) (by decide +kernel), hb_w 1835 (by decide +kernel) (by decide +kernel), ⟨by decide +kernel, by decide +kernel, by decide +kernel⟩, by decide⟩, hb_w 1834 (by decide +kernel) (by decide +kernel), hb_wp (q := (yX9_command, 29)) 85 (by decide +kernel) (by decide +kernel)⟩
set_option maxHeartbeats 4000000 in
set_option maxRecDepth 20000 in
theorem c_X9_command_b230 {G : hb_G} {l : Launch} {z : Bool}  {x0 : Nat} {x4 : Int32} {σ : hb_M} {r : (Int32 × hb_M)} (h : f_X9_command_b230 x0 x4 σ = some r) : hb_T G l z mX9_command 3 0 0 230 [(0, .ref x0), (4, .int x4)] [] σ (.inl (some (.int r.1)), r.2) := by
  unfold f_X9_command_b230 at h
  refine hs_aload_n dX9_command_230 0 rfl ?_
  refine hs_iload dX9_command_231 1 rfl ?_
  obtain ⟨r1, h1, h⟩ := hb_bind h
  obtain ⟨h1, nf1, hb1⟩ := hb_on_at h1
  refine hs_callVi (μ' := mX9_letter) (mc := 0) (ms := 0) (rc := 0) (rs := 0) (As := [.int x4]) (rest := []) (ci := 9) dX9_command_233 lmX9_261 okX9_letter rfl (by decide) rfl (Nat.le_of_ble_eq_true rfl) rfl hb1 (c_X9_letter h1) ?_
  refine hs_bipush (v := (59 : Int32)) dX9_command_236 (by decide) ?_
  refine hs_icmp_eq (tgt := 244) dX9_command_238 (by decide) (fun hc2 => ?_) (fun hc2 => ?_)
  · rw [if_pos hc2] at h
    refine hs_aload_n dX9_command_244 0 rfl ?_
    refine hs_dup dX9_command_245 rfl ?_
    obtain ⟨r3, h3, h⟩ := hb_bind h
    refine hs_getI dX9_command_246 lkX9_304 rfl h3 ?_
    refine hs_iconst (v := (1 : Int32)) dX9_command_249 (by decide) ?_
    refine hs_iadd dX9_command_250 ?_
    obtain ⟨r4, h4, h⟩ := hb_bind h
    refine hs_putI dX9_command_251 lpX9_command_304 rfl h4 ?_
    refine hs_aload_n dX9_command_254 0 rfl ?_
    refine hs_iload dX9_command_255 1 rfl ?_
    refine hs_iconst (v := (1 : Int32)) dX9_command_257 (by decide) ?_
    refine hs_iadd dX9_command_258 ?_
    obtain ⟨r5, h5, h⟩ := hb_bind h
    refine hs_putI dX9_command_259 lpX9_command_264 rfl h5 ?_
    refine hs_iconst (v := (-1 : Int32)) dX9_command_262 (by decide) ?_
    obtain rfl := Option.some.inj h
    exact hs_ireturn dX9_command_263 rfl (by rfl) (fun _ => rfl)
  · rw [if_neg hc2] at h
    refine hs_iload dX9_command_241 1 rfl ?_
    obtain rfl := Option.some.inj h
    exact hs_ireturn dX9_command_243 rfl (by rfl) (fun _ => rfl)
set_option maxHeartbeats 4000000 in
set_option maxRecDepth 20000 in
theorem c_X9_command_b207 {G : hb_G} {l : Launch} {z : Bool}  (k109 : Nat → Int32 → Int32 → Int32 → Int32 → hb_M → Option (Int32 × hb_M)) (hk109 : ∀ (x0 : Nat) (x3 : Int32) (x4 : Int32) (x5 : Int32) (x6 : Int32) (σ : hb_M) (r : (Int32 × hb_M)), k109 x0 x3 x4 x5 x6 σ = some r → hb_T G l z mX9_command 3 0 0 109 [(0, .ref x0), (3, .int x3), (4, .int x4), (5, .int x5), (6, .int x6)] [] σ (.inl (some (.int r.1)), r.2))  {x0 : Nat} {x3 : Int32} {x4 : Int32} {x5 : Int32} {x6 : Int32} {σ : hb_M} {r : (Int32 × hb_M)} (h : f_X9_command_b207 k109 x0 x3 x4 x5 x6 σ = some r) : hb_T G l z mX9_command 3 0 0 207 [(0, .ref x0), (3, .int x3), (4, .int x4), (5, .int x5), (6, .int x6)] [] σ (.inl (some (.int r.1)), r.2) := by
  unfold f_X9_command_b207 at h
  refine hs_iinc2 (k := (1 : Int32)) (lv' := [(6, .int (x6 + (1 : Int32))), (0, .ref x0), (3, .int x3), (4, .int x4), (5, .int x5)]) dX9_command_207 (by decide) 4 rfl (by decide) rfl ?_
  refine hs_goto (tgt := 109) dX9_command_210 (by decide) ?_
  refine hs_sub (lv' := [(0, .ref x0), (3, .int x3), (4, .int x4), (5, .int x5), (6, .int (x6 + (1 : Int32)))]) [1, 2, 3, 4, 0] rfl ?_
  exact hk109 _ _ _ _ _ _ _ h
set_option maxHeartbeats 4000000 in
set_option maxRecDepth 20000 in
theorem c_X9_command_b183 {G : hb_G} {l : Launch} {z : Bool}  (k109 : Nat → Int32 → Int32 → Int32 → Int32 → hb_M → Option (Int32 × hb_M)) (hk109 : ∀ (x0 : Nat) (x3 : Int32) (x4 : Int32) (x5 : Int32) (x6 : Int32) (σ : hb_M) (r : (Int32 × hb_M)), k109 x0 x3 x4 x5 x6 σ = some r → hb_T G l z mX9_command 3 0 0 109 [(0, .ref x0), (3, .int x3), (4, .int x4), (5, .int x5), (6, .int x6)] [] σ (.inl (some (.int r.1)), r.2))  {x0 : Nat} {x3 : Int32} {x4 : Int32} {x5 : Int32} {x6 : Int32} {σ : hb_M} {r : (Int32 × hb_M)} (h : f_X9_command_b183 k109 x0 x3 x4 x5 x6 σ = some r) : hb_T G l z mX9_command 3 0 0 183 [(0, .ref x0), (3, .int x3), (4, .int x4), (5, .int x5), (6, .int x6)] [] σ (.inl (some (.int r.1)), r.2) := by
  unfold f_X9_command_b183 at h
  refine hs_iload dX9_command_183 4 rfl ?_
  refine hs_iload dX9_command_185 3 rfl ?_
  refine hs_icmp_ge (tgt := 207) dX9_command_187 (by decide) (fun hc1 => ?_) (fun hc1 => ?_)
  · rw [if_pos hc1] at h
    refine hs_sub (lv' := [(0, .ref x0), (3, .int x3), (4, .int x4), (5, .int x5), (6, .int x6)]) [0, 1, 2, 3, 4] rfl ?_
    exact c_X9_command_b207 k109 hk109 h
  · rw [if_neg hc1] at h
    refine hs_aload_n dX9_command_190 0 rfl ?_
    refine hs_iload dX9_command_191 2 rfl ?_
    obtain ⟨r2, h2, h⟩ := hb_bind h
    obtain ⟨h2, nf2, hb2⟩ := hb_on_at h2
    refine hs_callVi (μ' := mX9_letter) (mc := 0) (ms := 0) (rc := 0) (rs := 0) (As := [.int x4]) (rest := []) (ci := 9) dX9_command_193 lmX9_261 okX9_letter rfl (by decide) rfl (Nat.le_of_ble_eq_true rfl) rfl hb2 (c_X9_letter h2) ?_
    refine hs_bipush (v := (44 : Int32)) dX9_command_196 (by decide) ?_
    refine hs_icmp_eq (tgt := 204) dX9_command_198 (by decide) (fun hc3 => ?_) (fun hc3 => ?_)
    · rw [if_pos hc3] at h
      refine hs_iinc2 (k := (1 : Int32)) (lv' := [(4, .int (x4 + (1 : Int32))), (0, .ref x0), (3, .int x3), (5, .int x5), (6, .int x6)]) dX9_command_204 (by decide) 2 rfl (by decide) rfl ?_
      refine hs_sub (lv' := [(0, .ref x0), (3, .int x3), (4, .int (x4 + (1 : Int32))), (5, .int x5), (6, .int x6)]) [1, 2, 0, 3, 4] rfl ?_
      exact c_X9_command_b207 k109 hk109 h
    · rw [if_neg hc3] at h
      refine hs_iload dX9_command_201 2 rfl ?_
      obtain rfl := Option.some.inj h
      exact hs_ireturn dX9_command_203 rfl (by rfl) (fun _ => rfl)
set_option maxHeartbeats 4000000 in
set_option maxRecDepth 20000 in
theorem c_X9_command_b149 {G : hb_G} {l : Launch} {z : Bool}  (k109 : Nat → Int32 → Int32 → Int32 → Int32 → hb_M → Option (Int32 × hb_M)) (hk109 : ∀ (x0 : Nat) (x3 : Int32) (x4 : Int32) (x5 : Int32) (x6 : Int32) (σ : hb_M) (r : (Int32 × hb_M)), k109 x0 x3 x4 x5 x6 σ = some r → hb_T G l z mX9_command 3 0 0 109 [(0, .ref x0), (3, .int x3), (4, .int x4), (5, .int x5), (6, .int x6)] [] σ (.inl (some (.int r.1)), r.2))  {x0 : Nat} {x3 : Int32} {x4 : Int32} {x5 : Int32} {x6 : Int32} {σ : hb_M} {r : (Int32 × hb_M)} (h : f_X9_command_b149 k109 x0 x3 x4 x5 x6 σ = some r) : hb_T G l z mX9_command 3 0 0 149 [(0, .ref x0), (3, .int x3), (4, .int x4), (5, .int x5), (6, .int x6)] [] σ (.inl (some (.int r.1)), r.2) := by
  unfold f_X9_command_b149 at h
  refine hs_aload_n dX9_command_149 0 rfl ?_
  refine hs_iload dX9_command_150 2 rfl ?_
  obtain ⟨r1, h1, h⟩ := hb_bind h
  obtain ⟨h1, nf1, hb1⟩ := hb_on_at h1
  refine hs_callVi (μ' := mX9_isNumber) (mc := 0) (ms := 0) (rc := 0) (rs := 0) (As := [.int x4]) (rest := []) (ci := 9) dX9_command_152 lmX9_307 okX9_isNumber rfl (by decide) rfl (Nat.le_of_ble_eq_true rfl) rfl hb1 (c_X9_isNumber h1) ?_
  refine hs_if_eq (tgt := 180) dX9_command_155 (by decide) (fun hc2 => ?_) (fun hc2 => ?_)
  · rw [if_pos hc2] at h
    refine hs_iload dX9_command_180 2 rfl ?_
    obtain rfl := Option.some.inj h
    exact hs_ireturn dX9_command_182 rfl (by rfl) (fun _ => rfl)
  · rw [if_neg hc2] at h
    refine hs_aload_n dX9_command_158 0 rfl ?_
    obtain ⟨r3, h3, h⟩ := hb_bind h
    refine hs_getR dX9_command_159 lkX9_60 rfl h3 ?_
    refine hs_iload_n dX9_command_162 1 rfl ?_
    refine hs_iload dX9_command_163 4 rfl ?_
    refine hs_iadd dX9_command_165 ?_
    refine hs_aload_n dX9_command_166 0 rfl ?_
    obtain ⟨r4, h4, h⟩ := hb_bind h
    refine hs_getI dX9_command_167 lkX9_301 rfl h4 ?_
    obtain ⟨r5, h5, h⟩ := hb_bind h
    refine hs_iast dX9_command_170 h5 ?_
    refine hs_aload_n dX9_command_171 0 rfl ?_
    obtain ⟨r6, h6, h⟩ := hb_bind h
    refine hs_getI dX9_command_172 lkX9_264 rfl h6 ?_
    refine hs_istore (lv' := [(4, .int r6), (0, .ref x0), (3, .int x3), (5, .int x5), (6, .int x6)]) dX9_command_175 (by decide) rfl ?_
    refine hs_goto (tgt := 183) dX9_command_177 (by decide) ?_
    refine hs_sub (lv' := [(0, .ref x0), (3, .int x3), (4, .int r6), (5, .int x5), (6, .int x6)]) [1, 2, 0, 3, 4] rfl ?_
    exact c_X9_command_b183 k109 hk109 h
set_option maxHeartbeats 4000000 in
set_option maxRecDepth 20000 in
theorem c_X9_command_b109 {G : hb_G} {l : Launch} {z : Bool} : ∀ (n : Nat) (x0 : Nat) (x3 : Int32) (x4 : Int32) (x5 : Int32) (x6 : Int32) (σ : hb_M) (r : (Int32 × hb_M)), f_X9_command_b109 n x0 x3 x4 x5 x6 σ = some r → hb_T G l z mX9_command 3 0 0 109 [(0, .ref x0), (3, .int x3), (4, .int x4), (5, .int x5), (6, .int x6)] [] σ (.inl (some (.int r.1)), r.2) := by
  intro n
  induction n with
  | zero =>
    intro x0 x3 x4 x5 x6 σ r h
    cases h
  | succ n ih =>
    intro x0 x3 x4 x5 x6 σ r h
    rw [f_X9_command_b109] at h
    refine hs_iload dX9_command_109 4 rfl ?_
    refine hs_iload dX9_command_111 3 rfl ?_
    refine hs_icmp_gt (tgt := 213) dX9_command_113 (by decide) (fun hc1 => ?_) (fun hc1 => ?_)
    · rw [if_pos hc1] at h
      refine hs_goto (tgt := 230) dX9_command_213 (by decide) ?_
      refine hs_sub (lv' := [(0, .ref x0), (4, .int x4)]) [0, 2] rfl ?_
      exact c_X9_command_b230 h
    · rw [if_neg hc1] at h
      refine hs_iload dX9_command_116 4 rfl ?_
      refine hs_iconst (v := (3 : Int32)) dX9_command_118 (by decide) ?_
      refine hs_icmp_ne (tgt := 149) dX9_command_119 (by decide) (fun hc2 => ?_) (fun hc2 => ?_)
      · rw [if_neg hc2] at h
        refine hs_sub (lv' := [(0, .ref x0), (3, .int x3), (4, .int x4), (5, .int x5), (6, .int x6)]) [0, 1, 2, 3, 4] rfl ?_
        exact c_X9_command_b149 (f_X9_command_b109 n) ih h
      · rw [if_pos hc2] at h
        refine hs_aload_n dX9_command_122 0 rfl ?_
        refine hs_iload dX9_command_123 2 rfl ?_
        obtain ⟨r3, h3, h⟩ := hb_bind h
        obtain ⟨h3, nf3, hb3⟩ := hb_on_at h3
        refine hs_callVi (μ' := mX9_letter) (mc := 0) (ms := 0) (rc := 0) (rs := 0) (As := [.int x4]) (rest := []) (ci := 9) dX9_command_125 lmX9_261 okX9_letter rfl (by decide) rfl (Nat.le_of_ble_eq_true rfl) rfl hb3 (c_X9_letter h3) ?_
        refine hs_bipush (v := (45 : Int32)) dX9_command_128 (by decide) ?_
        refine hs_icmp_ne (tgt := 149) dX9_command_130 (by decide) (fun hc4 => ?_) (fun hc4 => ?_)
        · rw [if_neg hc4] at h
          refine hs_sub (lv' := [(0, .ref x0), (3, .int x3), (4, .int x4), (5, .int x5), (6, .int x6)]) [0, 1, 2, 3, 4] rfl ?_
          exact c_X9_command_b149 (f_X9_command_b109 n) ih h
        · rw [if_pos hc4] at h
          refine hs_aload_n dX9_command_133 0 rfl ?_
          obtain ⟨r5, h5, h⟩ := hb_bind h
          refine hs_getR dX9_command_134 lkX9_60 rfl h5 ?_
          refine hs_iload_n dX9_command_137 1 rfl ?_
          refine hs_iload dX9_command_138 4 rfl ?_
          refine hs_iadd dX9_command_140 ?_
          refine hs_iconst (v := (-1 : Int32)) dX9_command_141 (by decide) ?_
          obtain ⟨r6, h6, h⟩ := hb_bind h
          refine hs_iast dX9_command_142 h6 ?_
          refine hs_iinc2 (k := (1 : Int32)) (lv' := [(4, .int (x4 + (1 : Int32))), (0, .ref x0), (3, .int x3), (5, .int x5), (6, .int x6)]) dX9_command_143 (by decide) 2 rfl (by decide) rfl ?_
          refine hs_goto (tgt := 183) dX9_command_146 (by decide) ?_
          refine hs_sub (lv' := [(0, .ref x0), (3, .int x3), (4, .int (x4 + (1 : Int32))), (5, .int x5), (6, .int x6)]) [1, 2, 0, 3, 4] rfl ?_
          exact c_X9_command_b183 (f_X9_command_b109 n) ih h
set_option maxHeartbeats 4000000 in
set_option maxRecDepth 20000 in
theorem c_X9_command_b104 {G : hb_G} {l : Launch} {z : Bool}  {x0 : Nat} {x3 : Int32} {x4 : Int32} {s0 : Int32} {σ : hb_M} {r : (Int32 × hb_M)} (h : f_X9_command_b104 x0 x3 x4 s0 σ = some r) : hb_T G l z mX9_command 3 0 0 104 [(0, .ref x0), (3, .int x3), (4, .int x4)] [.int s0] σ (.inl (some (.int r.1)), r.2) := by
  unfold f_X9_command_b104 at h
  refine hs_istore (lv' := [(5, .int s0), (0, .ref x0), (3, .int x3), (4, .int x4)]) dX9_command_104 (by decide) rfl ?_
  refine hs_iconst (v := (1 : Int32)) dX9_command_106 (by decide) ?_
  refine hs_istore (lv' := [(6, .int (1 : Int32)), (5, .int s0), (0, .ref x0), (3, .int x3), (4, .int x4)]) dX9_command_107 (by decide) rfl ?_
  refine hs_sub (lv' := [(0, .ref x0), (3, .int x3), (4, .int x4), (5, .int s0), (6, .int (1 : Int32))]) [2, 3, 4, 1, 0] rfl ?_
  exact c_X9_command_b109 hb_FU _ _ _ _ _ _ _ h
set_option maxHeartbeats 4000000 in
set_option maxRecDepth 20000 in
theorem c_X9_command_b93 {G : hb_G} {l : Launch} {z : Bool}  {x0 : Nat} {x2 : Int32} {x3 : Int32} {x4 : Int32} {σ : hb_M} {r : (Int32 × hb_M)} (h : f_X9_command_b93 x0 x2 x3 x4 σ = some r) : hb_T G l z mX9_command 3 0 0 93 [(0, .ref x0), (2, .int x2), (3, .int x3), (4, .int x4)] [] σ (.inl (some (.int r.1)), r.2) := by
  unfold f_X9_command_b93 at h
  refine hs_iload_n dX9_command_93 1 rfl ?_
  refine hs_bipush (v := (115 : Int32)) dX9_command_94 (by decide) ?_
  refine hs_icmp_ne (tgt := 103) dX9_command_96 (by decide) (fun hc1 => ?_) (fun hc1 => ?_)
  · rw [if_neg hc1] at h
    refine hs_iconst (v := (2 : Int32)) dX9_command_103 (by decide) ?_
    refine hs_sub (lv' := [(0, .ref x0), (3, .int x3), (4, .int x4)]) [0, 2, 3] rfl ?_
    exact c_X9_command_b104 h
  · rw [if_pos hc1] at h
    refine hs_iconst (v := (3 : Int32)) dX9_command_99 (by decide) ?_
    refine hs_goto (tgt := 104) dX9_command_100 (by decide) ?_
    refine hs_sub (lv' := [(0, .ref x0), (3, .int x3), (4, .int x4)]) [0, 2, 3] rfl ?_
    exact c_X9_command_b104 h
set_option maxHeartbeats 4000000 in
set_option maxRecDepth 20000 in
theorem c_X9_command_b37 {G : hb_G} {l : Launch} {z : Bool}  {x0 : Nat} {x3 : Int32} {x4 : Int32} {σ : hb_M} {r : (Int32 × hb_M)} (h : f_X9_command_b37 x0 x3 x4 σ = some r) : hb_T G l z mX9_command 3 0 0 37 [(0, .ref x0), (3, .int x3), (4, .int x4)] [] σ (.inl (some (.int r.1)), r.2) := by
  unfold f_X9_command_b37 at h
  refine hs_aload_n dX9_command_37 0 rfl ?_
  refine hs_iload dX9_command_38 2 rfl ?_
  obtain ⟨r1, h1, h⟩ := hb_bind h
  obtain ⟨h1, nf1, hb1⟩ := hb_on_at h1
  refine hs_callVi (μ' := mX9_letter) (mc := 0) (ms := 0) (rc := 0) (rs := 0) (As := [.int x4]) (rest := []) (ci := 9) dX9_command_40 lmX9_261 okX9_letter rfl (by decide) rfl (Nat.le_of_ble_eq_true rfl) rfl hb1 (c_X9_letter h1) ?_
  obtain ⟨r2, h2, h⟩ := hb_bind h
  refine hs_callSi (μ' := mX9_isDigit) (mc := 0) (ms := 0) (rc := 0) (rs := 0) (As := [.int r1.1]) (rest := []) dX9_command_43 lmX9_267 okX9_isDigit rfl (by decide) rfl (Nat.le_of_ble_eq_true rfl) (c_X9_isDigit h2) ?_
  refine hs_if_ne (tgt := 52) dX9_command_46 (by decide) (fun hc3 => ?_) (fun hc3 => ?_)
  · rw [if_neg hc3] at h
    refine hs_aload_n dX9_command_52 0 rfl ?_
    obtain ⟨r4, h4, h⟩ := hb_bind h
    refine hs_getR dX9_command_53 lkX9_60 rfl h4 ?_
    refine hs_iload_n dX9_command_56 1 rfl ?_
    refine hs_iconst (v := (1 : Int32)) dX9_command_57 (by decide) ?_
    refine hs_iadd dX9_command_58 ?_
    refine hs_aload_n dX9_command_59 0 rfl ?_
    refine hs_iload dX9_command_60 2 rfl ?_
    obtain ⟨r5, h5, h⟩ := hb_bind h
    obtain ⟨h5, nf5, hb5⟩ := hb_on_at h5
    refine hs_callVi (μ' := mX9_letter) (mc := 0) (ms := 0) (rc := 0) (rs := 0) (As := [.int x4]) (rest := [.int (x3 + (1 : Int32)), .ref r4]) (ci := 9) dX9_command_62 lmX9_261 okX9_letter rfl (by decide) rfl (Nat.le_of_ble_eq_true rfl) rfl hb5 (c_X9_letter h5) ?_
    refine hs_bipush (v := (48 : Int32)) dX9_command_65 (by decide) ?_
    refine hs_isub dX9_command_67 ?_
    obtain ⟨r6, h6, h⟩ := hb_bind h
    refine hs_iast dX9_command_68 h6 ?_
    refine hs_iinc2 (k := (1 : Int32)) (lv' := [(4, .int (x4 + (1 : Int32))), (0, .ref x0), (3, .int x3)]) dX9_command_69 (by decide) 2 rfl (by decide) rfl ?_
    refine hs_goto (tgt := 230) dX9_command_72 (by decide) ?_
    refine hs_sub (lv' := [(0, .ref x0), (4, .int (x4 + (1 : Int32)))]) [1, 0] rfl ?_
    exact c_X9_command_b230 h
  · rw [if_pos hc3] at h
    refine hs_iload dX9_command_49 2 rfl ?_
    obtain rfl := Option.some.inj h
    exact hs_ireturn dX9_command_51 rfl (by rfl) (fun _ => rfl)
set_option maxHeartbeats 4000000 in
set_option maxRecDepth 20000 in
theorem c_X9_command {G : hb_G} {l : Launch} {z : Bool} {x0 : Nat} {x1 : Int32} {σ : hb_M} {r : (Int32 × hb_M)} (h : f_X9_command x0 x1 σ = some r) : hb_Call G l z 3 0 0 mX9_command [.ref x0, .int x1] σ (.inl (some (.int r.1)), r.2) := by
  refine hb_met (by decide) (Nat.le_of_ble_eq_true rfl) ?_
  unfold f_X9_command at h
  refine hs_aload_n dX9_command_0 0 rfl ?_
  refine hs_iload_n dX9_command_1 1 rfl ?_
  obtain ⟨r1, h1, h⟩ := hb_bind h
  obtain ⟨h1, nf1, hb1⟩ := hb_on_at h1
  refine hs_callVi (μ' := mX9_letter) (mc := 0) (ms := 0) (rc := 0) (rs := 0) (As := [.int x1]) (rest := []) (ci := 9) dX9_command_2 lmX9_261 okX9_letter rfl (by decide) rfl (Nat.le_of_ble_eq_true rfl) rfl hb1 (c_X9_letter h1) ?_
  refine hs_istore_n (lv' := [(2, .int r1.1), (0, .ref x0), (1, .int x1)]) dX9_command_5 (by decide) rfl ?_
  refine hs_iconst (v := (4 : Int32)) dX9_command_6 (by decide) ?_
  refine hs_aload_n dX9_command_7 1 rfl ?_
  obtain ⟨r2, h2, h⟩ := hb_bind h
  refine hs_getI dX9_command_8 lkX9_304 rfl h2 ?_
  refine hs_imul dX9_command_11 ?_
  refine hs_istore_n (lv' := [(3, .int ((4 : Int32) * r2)), (2, .int r1.1), (0, .ref x0), (1, .int x1)]) dX9_command_12 (by decide) rfl ?_
  refine hs_aload_n dX9_command_13 2 rfl ?_
  obtain ⟨r3, h3, h⟩ := hb_bind h
  refine hs_getR dX9_command_14 lkX9_60 rfl h3 ?_
  refine hs_iload_n dX9_command_17 0 rfl ?_
  refine hs_iload_n dX9_command_18 1 rfl ?_
  obtain ⟨r4, h4, h⟩ := hb_bind h
  refine hs_iast dX9_command_19 h4 ?_
  refine hs_iload_n dX9_command_20 3 rfl ?_
  refine hs_iconst (v := (1 : Int32)) dX9_command_21 (by decide) ?_
  refine hs_iadd dX9_command_22 ?_
  refine hs_istore (lv' := [(4, .int (x1 + (1 : Int32))), (3, .int ((4 : Int32) * r2)), (2, .int r1.1), (0, .ref x0), (1, .int x1)]) dX9_command_23 (by decide) rfl ?_
  refine hs_iload_n dX9_command_25 2 rfl ?_
  refine hs_bipush (v := (110 : Int32)) dX9_command_26 (by decide) ?_
  refine hs_icmp_eq (tgt := 37) dX9_command_28 (by decide) (fun hc5 => ?_) (fun hc5 => ?_)
  · rw [if_pos hc5] at h
    refine hs_sub (lv' := [(0, .ref x0), (3, .int ((4 : Int32) * r2)), (4, .int (x1 + (1 : Int32)))]) [3, 1, 0] rfl ?_
    exact c_X9_command_b37 h
  · rw [if_neg hc5] at h
    refine hs_iload_n dX9_command_31 2 rfl ?_
    refine hs_bipush (v := (97 : Int32)) dX9_command_32 (by decide) ?_
    refine hs_icmp_ne (tgt := 75) dX9_command_34 (by decide) (fun hc6 => ?_) (fun hc6 => ?_)
    · rw [if_neg hc6] at h
      refine hs_iload_n dX9_command_75 2 rfl ?_
      refine hs_bipush (v := (115 : Int32)) dX9_command_76 (by decide) ?_
      refine hs_icmp_eq (tgt := 93) dX9_command_78 (by decide) (fun hc7 => ?_) (fun hc7 => ?_)
      · rw [if_pos hc7] at h
        refine hs_sub (lv' := [(0, .ref x0), (2, .int r1.1), (3, .int ((4 : Int32) * r2)), (4, .int (x1 + (1 : Int32)))]) [3, 2, 1, 0] rfl ?_
        exact c_X9_command_b93 h
      · rw [if_neg hc7] at h
        refine hs_iload_n dX9_command_81 2 rfl ?_
        refine hs_bipush (v := (43 : Int32)) dX9_command_82 (by decide) ?_
        refine hs_icmp_eq (tgt := 93) dX9_command_84 (by decide) (fun hc8 => ?_) (fun hc8 => ?_)
        · rw [if_pos hc8] at h
          refine hs_sub (lv' := [(0, .ref x0), (2, .int r1.1), (3, .int ((4 : Int32) * r2)), (4, .int (x1 + (1 : Int32)))]) [3, 2, 1, 0] rfl ?_
          exact c_X9_command_b93 h
        · rw [if_neg hc8] at h
          refine hs_iload_n dX9_command_87 2 rfl ?_
          refine hs_bipush (v := (45 : Int32)) dX9_command_88 (by decide) ?_
          refine hs_icmp_ne (tgt := 216) dX9_command_90 (by decide) (fun hc9 => ?_) (fun hc9 => ?_)
          · rw [if_neg hc9] at h
            refine hs_iload_n dX9_command_216 2 rfl ?_
            refine hs_bipush (v := (119 : Int32)) dX9_command_217 (by decide) ?_
            refine hs_icmp_eq (tgt := 230) dX9_command_219 (by decide) (fun hc10 => ?_) (fun hc10 => ?_)
            · rw [if_pos hc10] at h
              refine hs_sub (lv' := [(0, .ref x0), (4, .int (x1 + (1 : Int32)))]) [3, 0] rfl ?_
              exact c_X9_command_b230 h
            · rw [if_neg hc10] at h
              refine hs_iload_n dX9_command_222 2 rfl ?_
              refine hs_bipush (v := (99 : Int32)) dX9_command_223 (by decide) ?_
              refine hs_icmp_eq (tgt := 230) dX9_command_225 (by decide) (fun hc11 => ?_) (fun hc11 => ?_)
              · rw [if_pos hc11] at h
                refine hs_sub (lv' := [(0, .ref x0), (4, .int (x1 + (1 : Int32)))]) [3, 0] rfl ?_
                exact c_X9_command_b230 h
              · rw [if_neg hc11] at h
                refine hs_iload_n dX9_command_228 4 rfl ?_
                obtain rfl := Option.some.inj h
                exact hs_ireturn dX9_command_229 rfl (by rfl) (fun _ => rfl)
          · rw [if_pos hc9] at h
            refine hs_sub (lv' := [(0, .ref x0), (2, .int r1.1), (3, .int ((4 : Int32) * r2)), (4, .int (x1 + (1 : Int32)))]) [3, 2, 1, 0] rfl ?_
            exact c_X9_command_b93 h
    · rw [if_pos hc6] at h
      refine hs_sub (lv' := [(0, .ref x0), (3, .int ((4 : Int32) * r2)), (4, .int (x1 + (1 : Int32)))]) [3, 1, 0] rfl ?_
      exact c_X9_command_b37 h
def mX9_laysCommands : hb_Y := (yX9_laysCommands, cX9_laysCommands, 3, (some .int), [], false)
theorem okX9_laysCommands : hb_okV mX9_laysCommands 0 := ⟨⟨hb_w 11 (by decide +kernel) (by decide +kernel), hb_w 1831 (by decide +kernel) (by decide +kernel), ⟨by decide +kernel, by decide +kernel, by decide +kernel⟩, by decide⟩, hb_w 1830 (by decide +kernel) (by decide +kernel), hb_wp (q := (yX9_laysCommands, 29)) 84 (by decide +kernel) (by decide +kernel)⟩
set_option maxHeartbeats 4000000 in
set_option maxRecDepth 20000 in
theorem c_X9_laysCommands_b7 {G : hb_G} {l : Launch} {z : Bool} : ∀ (n : Nat) (x0 : Nat) (x1 : Int32) (σ : hb_M) (r : (Int32 × hb_M)), f_X9_laysCommands_b7 n x0 x1 σ = some r → hb_T G l z mX9_laysCommands 4 0 0 7 [(0, .ref x0), (1, .int x1)] [] σ (.inl (some (.int r.1)), r.2) := by
  intro n
  induction n with
  | zero =>
    intro x0 x1 σ r h
    cases h
  | succ n ih =>
    intro x0 x1 σ r h
    rw [f_X9_laysCommands_b7] at h
    refine hs_iload_n dX9_laysCommands_7 1 rfl ?_
    refine hs_aload_n dX9_laysCommands_8 0 rfl ?_
    obtain ⟨r1, h1, h⟩ := hb_bind h
    refine hs_getI dX9_laysCommands_9 lkX9_248 rfl h1 ?_
    refine hs_icmp_ge (tgt := 36) dX9_laysCommands_12 (by decide) (fun hc2 => ?_) (fun hc2 => ?_)
    · rw [if_pos hc2] at h
      refine hs_iconst (v := (-1 : Int32)) dX9_laysCommands_36 (by decide) ?_
      obtain rfl := Option.some.inj h
      exact hs_ireturn dX9_laysCommands_37 rfl (by rfl) (fun _ => rfl)
    · rw [if_neg hc2] at h
      refine hs_aload_n dX9_laysCommands_15 0 rfl ?_
      refine hs_iload_n dX9_laysCommands_16 1 rfl ?_
      obtain ⟨r3, h3, h⟩ := hb_bind h
      obtain ⟨h3, nf3, hb3⟩ := hb_on_at h3
      refine hs_callVi (μ' := mX9_command) (mc := 0) (ms := 0) (rc := 0) (rs := 0) (As := [.int x1]) (rest := []) (ci := 9) dX9_laysCommands_17 lmX9_310 okX9_command rfl (by decide) rfl (Nat.le_of_ble_eq_true rfl) rfl hb3 (c_X9_command h3) ?_
      refine hs_istore_n (lv' := [(2, .int r3.1), (0, .ref x0), (1, .int x1)]) dX9_laysCommands_20 (by decide) rfl ?_
      refine hs_iload_n dX9_laysCommands_21 0 rfl ?_
      refine hs_iconst (v := (-1 : Int32)) dX9_laysCommands_22 (by decide) ?_
      refine hs_icmp_eq (tgt := 28) dX9_laysCommands_23 (by decide) (fun hc4 => ?_) (fun hc4 => ?_)
      · rw [if_pos hc4] at h
        refine hs_aload_n dX9_laysCommands_28 1 rfl ?_
        obtain ⟨r5, h5, h⟩ := hb_bind h
        refine hs_getI dX9_laysCommands_29 lkX9_264 rfl h5 ?_
        refine hs_istore_n (lv' := [(1, .int r5), (2, .int r3.1), (0, .ref x0)]) dX9_laysCommands_32 (by decide) rfl ?_
        refine hs_goto (tgt := 7) dX9_laysCommands_33 (by decide) ?_
        refine hs_sub (lv' := [(0, .ref x0), (1, .int r5)]) [2, 0] rfl ?_
        exact ih _ _ _ _ h
      · rw [if_neg hc4] at h
        refine hs_iload_n dX9_laysCommands_26 0 rfl ?_
        obtain rfl := Option.some.inj h
        exact hs_ireturn dX9_laysCommands_27 rfl (by rfl) (fun _ => rfl)
set_option maxHeartbeats 4000000 in
set_option maxRecDepth 20000 in
theorem c_X9_laysCommands {G : hb_G} {l : Launch} {z : Bool} {x0 : Nat} {σ : hb_M} {r : (Int32 × hb_M)} (h : f_X9_laysCommands x0 σ = some r) : hb_Call G l z 4 0 0 mX9_laysCommands [.ref x0] σ (.inl (some (.int r.1)), r.2) := by
  refine hb_met (by decide) (Nat.le_of_ble_eq_true rfl) ?_
  unfold f_X9_laysCommands at h
  refine hs_aload_n dX9_laysCommands_0 0 rfl ?_
  refine hs_iconst (v := (0 : Int32)) dX9_laysCommands_1 (by decide) ?_
  obtain ⟨r1, h1, h⟩ := hb_bind h
  refine hs_putI dX9_laysCommands_2 lpX9_laysCommands_304 rfl h1 ?_
  refine hs_iconst (v := (0 : Int32)) dX9_laysCommands_5 (by decide) ?_
  refine hs_istore_n (lv' := [(1, .int (0 : Int32)), (0, .ref x0)]) dX9_laysCommands_6 (by decide) rfl ?_
  refine hs_sub (lv' := [(0, .ref x0), (1, .int (0 : Int32))]) [1, 0] rfl ?_
  exact c_X9_laysCommands_b7 hb_FU _ _ _ _ h
def mX9_does : hb_Y := (yX9_does, cX9_does, 5, (some .boolean), [], false)
theorem okX9_does : hb_okV mX9_does 1 := ⟨⟨hb_w 11 (by decide +kernel) (by decide +kernel), hb_w 1843 (by decide +kernel) (by decide +kernel), ⟨by decide +kernel, by decide +kernel, by decide +kernel⟩, by decide⟩, hb_w 1842 (by decide +kernel) (by decide +kernel), hb_wp (q := (yX9_does, 29)) 87 (by decide +kernel) (by decide +kernel)⟩
set_option maxHeartbeats 4000000 in
set_option maxRecDepth 20000 in
theorem c_X9_does {G : hb_G} {l : Launch} {z : Bool} {x0 : Nat} {x1 : Int32} {σ : hb_M} {r : (Int32 × hb_M)} (h : f_X9_does x0 x1 σ = some r) : hb_Call G l z 4 0 0 mX9_does [.ref x0, .int x1] σ (.inl (some (.int r.1)), r.2) := by
  refine hb_met (by decide) (Nat.le_of_ble_eq_true rfl) ?_
  unfold f_X9_does at h
  refine hs_aload_n dX9_does_0 0 rfl ?_
  obtain ⟨r1, h1, h⟩ := hb_bind h
  refine hs_getR dX9_does_1 lkX9_60 rfl h1 ?_
  refine hs_iconst (v := (4 : Int32)) dX9_does_4 (by decide) ?_
  refine hs_iload_n dX9_does_5 1 rfl ?_
  refine hs_imul dX9_does_6 ?_
  refine hs_iconst (v := (1 : Int32)) dX9_does_7 (by decide) ?_
  refine hs_iadd dX9_does_8 ?_
  obtain ⟨r2, h2, h⟩ := hb_bind h
  refine hs_iald dX9_does_9 h2 ?_
  refine hs_istore_n (lv' := [(2, .int r2), (0, .ref x0), (1, .int x1)]) dX9_does_10 (by decide) rfl ?_
  refine hs_aload_n dX9_does_11 1 rfl ?_
  obtain ⟨r3, h3, h⟩ := hb_bind h
  refine hs_getR dX9_does_12 lkX9_60 rfl h3 ?_
  refine hs_iconst (v := (4 : Int32)) dX9_does_15 (by decide) ?_
  refine hs_iload_n dX9_does_16 2 rfl ?_
  refine hs_imul dX9_does_17 ?_
  refine hs_iconst (v := (2 : Int32)) dX9_does_18 (by decide) ?_
  refine hs_iadd dX9_does_19 ?_
  obtain ⟨r4, h4, h⟩ := hb_bind h
  refine hs_iald dX9_does_20 h4 ?_
  refine hs_istore_n (lv' := [(3, .int r4), (2, .int r2), (0, .ref x0), (1, .int x1)]) dX9_does_21 (by decide) rfl ?_
  refine hs_aload_n dX9_does_22 2 rfl ?_
  obtain ⟨r5, h5, h⟩ := hb_bind h
  refine hs_getR dX9_does_23 lkX9_60 rfl h5 ?_
  refine hs_iconst (v := (4 : Int32)) dX9_does_26 (by decide) ?_
  refine hs_iload_n dX9_does_27 3 rfl ?_
  refine hs_imul dX9_does_28 ?_
  refine hs_iconst (v := (3 : Int32)) dX9_does_29 (by decide) ?_
  refine hs_iadd dX9_does_30 ?_
  obtain ⟨r6, h6, h⟩ := hb_bind h
  refine hs_iald dX9_does_31 h6 ?_
  refine hs_istore (lv' := [(4, .int r6), (3, .int r4), (2, .int r2), (0, .ref x0), (1, .int x1)]) dX9_does_32 (by decide) rfl ?_
  refine hs_aload_n dX9_does_34 3 rfl ?_
  obtain ⟨r7, h7, h⟩ := hb_bind h
  refine hs_getR dX9_does_35 lkX9_60 rfl h7 ?_
  refine hs_iconst (v := (4 : Int32)) dX9_does_38 (by decide) ?_
  refine hs_iload_n dX9_does_39 4 rfl ?_
  refine hs_imul dX9_does_40 ?_
  obtain ⟨r8, h8, h⟩ := hb_bind h
  refine hs_iald dX9_does_41 h8 ?_
  by_cases hc9 : r8 = (43 : Int32)
  · rw [if_pos hc9] at h
    refine hs_lkpC (tgt := 194) (off := 152) (43 : Int32) dX9_does_42 (by decide) hc9 (by decide) (by decide) ?_
    refine hs_aload_n dX9_does_194 3 rfl ?_
    refine hs_iload_n dX9_does_195 2 rfl ?_
    refine hs_iload_n dX9_does_196 1 rfl ?_
    obtain ⟨r10, h10, h⟩ := hb_bind h
    obtain ⟨h10, nf10, hb10⟩ := hb_on_at h10
    refine hs_callVi (μ' := mX9_rootRefusal) (mc := 0) (ms := 0) (rc := 0) (rs := 0) (As := [.int r2, .int r4]) (rest := []) (ci := 9) dX9_does_197 lmX9_132 okX9_rootRefusal rfl (by decide) rfl (Nat.le_of_ble_eq_true rfl) rfl hb10 (c_X9_rootRefusal h10) ?_
    refine hs_if_eq (tgt := 205) dX9_does_200 (by decide) (fun hc11 => ?_) (fun hc11 => ?_)
    · rw [if_pos hc11] at h
      refine hs_aload_n dX9_does_205 3 rfl ?_
      obtain ⟨r12, h12, h⟩ := hb_bind h
      refine hs_getR dX9_does_206 lkX9_7 rfl h12 ?_
      refine hs_iload_n dX9_does_209 2 rfl ?_
      obtain ⟨r13, h13, h⟩ := hb_bind h
      refine hs_callSi (μ' := mX9_at) (mc := 0) (ms := 0) (rc := 0) (rs := 0) (As := [.int r2]) (rest := [.ref r12]) dX9_does_210 lmX9_103 okX9_at rfl (by decide) rfl (Nat.le_of_ble_eq_true rfl) (c_X9_at h13) ?_
      refine hs_iconst (v := (4 : Int32)) dX9_does_213 (by decide) ?_
      refine hs_iadd dX9_does_214 ?_
      refine hs_dup2 dX9_does_215 rfl rfl ?_
      obtain ⟨r14, h14, h⟩ := hb_bind h
      refine hs_iald dX9_does_216 h14 ?_
      refine hs_iconst (v := (1 : Int32)) dX9_does_217 (by decide) ?_
      refine hs_iload_n dX9_does_218 1 rfl ?_
      refine hs_ishl dX9_does_219 ?_
      refine hs_ior dX9_does_220 ?_
      obtain ⟨r15, h15, h⟩ := hb_bind h
      refine hs_iast dX9_does_221 h15 ?_
      refine hs_iconst (v := (1 : Int32)) dX9_does_222 (by decide) ?_
      obtain rfl := Option.some.inj h
      exact hs_ireturn dX9_does_223 rfl (by decide) (fun _ => rfl)
    · rw [if_neg hc11] at h
      refine hs_iconst (v := (0 : Int32)) dX9_does_203 (by decide) ?_
      obtain rfl := Option.some.inj h
      exact hs_ireturn dX9_does_204 rfl (by decide) (fun _ => rfl)
  rw [if_neg hc9] at h
  by_cases hc16 : r8 = (45 : Int32)
  · rw [if_pos hc16] at h
    refine hs_lkpC (tgt := 224) (off := 182) (45 : Int32) dX9_does_42 (by decide) hc16 (by decide) (by decide) ?_
    refine hs_aload_n dX9_does_224 3 rfl ?_
    refine hs_iload_n dX9_does_225 2 rfl ?_
    refine hs_iload_n dX9_does_226 1 rfl ?_
    obtain ⟨r17, h17, h⟩ := hb_bind h
    obtain ⟨h17, nf17, hb17⟩ := hb_on_at h17
    refine hs_callVi (μ' := mX9_unrootRefusal) (mc := 0) (ms := 0) (rc := 0) (rs := 0) (As := [.int r2, .int r4]) (rest := []) (ci := 9) dX9_does_227 lmX9_135 okX9_unrootRefusal rfl (by decide) rfl (Nat.le_of_ble_eq_true rfl) rfl hb17 (c_X9_unrootRefusal h17) ?_
    refine hs_if_eq (tgt := 235) dX9_does_230 (by decide) (fun hc18 => ?_) (fun hc18 => ?_)
    · rw [if_pos hc18] at h
      refine hs_aload_n dX9_does_235 3 rfl ?_
      obtain ⟨r19, h19, h⟩ := hb_bind h
      refine hs_getR dX9_does_236 lkX9_7 rfl h19 ?_
      refine hs_iload_n dX9_does_239 2 rfl ?_
      obtain ⟨r20, h20, h⟩ := hb_bind h
      refine hs_callSi (μ' := mX9_at) (mc := 0) (ms := 0) (rc := 0) (rs := 0) (As := [.int r2]) (rest := [.ref r19]) dX9_does_240 lmX9_103 okX9_at rfl (by decide) rfl (Nat.le_of_ble_eq_true rfl) (c_X9_at h20) ?_
      refine hs_iconst (v := (4 : Int32)) dX9_does_243 (by decide) ?_
      refine hs_iadd dX9_does_244 ?_
      refine hs_dup2 dX9_does_245 rfl rfl ?_
      obtain ⟨r21, h21, h⟩ := hb_bind h
      refine hs_iald dX9_does_246 h21 ?_
      refine hs_iconst (v := (1 : Int32)) dX9_does_247 (by decide) ?_
      refine hs_iload_n dX9_does_248 1 rfl ?_
      refine hs_ishl dX9_does_249 ?_
      refine hs_iconst (v := (-1 : Int32)) dX9_does_250 (by decide) ?_
      refine hs_ixor dX9_does_251 ?_
      refine hs_iand dX9_does_252 ?_
      obtain ⟨r22, h22, h⟩ := hb_bind h
      refine hs_iast dX9_does_253 h22 ?_
      refine hs_iconst (v := (1 : Int32)) dX9_does_254 (by decide) ?_
      obtain rfl := Option.some.inj h
      exact hs_ireturn dX9_does_255 rfl (by decide) (fun _ => rfl)
    · rw [if_neg hc18] at h
      refine hs_iconst (v := (0 : Int32)) dX9_does_233 (by decide) ?_
      obtain rfl := Option.some.inj h
      exact hs_ireturn dX9_does_234 rfl (by decide) (fun _ => rfl)
  rw [if_neg hc16] at h
  by_cases hc23 : r8 = (97 : Int32)
  · rw [if_pos hc23] at h
    refine hs_lkpC (tgt := 123) (off := 81) (97 : Int32) dX9_does_42 (by decide) hc23 (by decide) (by decide) ?_
    refine hs_aload_n dX9_does_123 3 rfl ?_
    refine hs_iload_n dX9_does_124 2 rfl ?_
    obtain ⟨r24, h24, h⟩ := hb_bind h
    obtain ⟨h24, nf24, hb24⟩ := hb_on_at h24
    refine hs_callVi (μ' := mX9_arrayRefusal) (mc := 0) (ms := 0) (rc := 0) (rs := 0) (As := [.int r2]) (rest := []) (ci := 9) dX9_does_125 lmX9_122 okX9_arrayRefusal rfl (by decide) rfl (Nat.le_of_ble_eq_true rfl) rfl hb24 (c_X9_arrayRefusal h24) ?_
    refine hs_if_eq (tgt := 133) dX9_does_128 (by decide) (fun hc25 => ?_) (fun hc25 => ?_)
    · rw [if_pos hc25] at h
      refine hs_aload_n dX9_does_133 3 rfl ?_
      refine hs_bipush (v := (10 : Int32)) dX9_does_134 (by decide) ?_
      refine hs_iload_n dX9_does_136 2 rfl ?_
      obtain ⟨r26, h26, h⟩ := hb_bind h
      obtain ⟨h26, nf26, hb26⟩ := hb_on_at h26
      refine hs_callVi (μ' := mX9_creates) (mc := 0) (ms := 0) (rc := 0) (rs := 0) (As := [.int (10 : Int32), .int r2]) (rest := []) (ci := 9) dX9_does_137 lmX9_119 okX9_creates rfl (by decide) rfl (Nat.le_of_ble_eq_true rfl) rfl hb26 (c_X9_creates h26) ?_
      refine hs_pop dX9_does_140 rfl ?_
      refine hs_iconst (v := (1 : Int32)) dX9_does_141 (by decide) ?_
      obtain rfl := Option.some.inj h
      exact hs_ireturn dX9_does_142 rfl (by decide) (fun _ => rfl)
    · rw [if_neg hc25] at h
      refine hs_iconst (v := (0 : Int32)) dX9_does_131 (by decide) ?_
      obtain rfl := Option.some.inj h
      exact hs_ireturn dX9_does_132 rfl (by decide) (fun _ => rfl)
  rw [if_neg hc23] at h
  by_cases hc27 : r8 = (110 : Int32)
  · rw [if_pos hc27] at h
    refine hs_lkpC (tgt := 100) (off := 58) (110 : Int32) dX9_does_42 (by decide) hc27 (by decide) (by decide) ?_
    refine hs_aload_n dX9_does_100 3 rfl ?_
    refine hs_iload_n dX9_does_101 2 rfl ?_
    obtain ⟨r28, h28, h⟩ := hb_bind h
    obtain ⟨h28, nf28, hb28⟩ := hb_on_at h28
    refine hs_callVi (μ' := mX9_instanceRefusal) (mc := 0) (ms := 0) (rc := 0) (rs := 0) (As := [.int r2]) (rest := []) (ci := 9) dX9_does_102 lmX9_116 okX9_instanceRefusal rfl (by decide) rfl (Nat.le_of_ble_eq_true rfl) rfl hb28 (c_X9_instanceRefusal h28) ?_
    refine hs_if_eq (tgt := 110) dX9_does_105 (by decide) (fun hc29 => ?_) (fun hc29 => ?_)
    · rw [if_pos hc29] at h
      refine hs_aload_n dX9_does_110 3 rfl ?_
      refine hs_iload_n dX9_does_111 2 rfl ?_
      refine hs_aload_n dX9_does_112 3 rfl ?_
      refine hs_iload_n dX9_does_113 2 rfl ?_
      obtain ⟨r30, h30, h⟩ := hb_bind h
      obtain ⟨h30, nf30, hb30⟩ := hb_on_at h30
      refine hs_callVi (μ' := mX9_fieldsOf) (mc := 0) (ms := 0) (rc := 0) (rs := 0) (As := [.int r2]) (rest := [.int r2, .ref x0]) (ci := 9) dX9_does_114 lmX9_82 okX9_fieldsOf rfl (by decide) rfl (Nat.le_of_ble_eq_true rfl) rfl hb30 (c_X9_fieldsOf h30) ?_
      obtain ⟨r31, h31, h⟩ := hb_bind h
      obtain ⟨h31, nf31, hb31⟩ := hb_on_at h31
      refine hs_callVi (μ' := mX9_creates) (mc := 0) (ms := 0) (rc := 0) (rs := 0) (As := [.int r2, .int r30.1]) (rest := []) (ci := 9) dX9_does_117 lmX9_119 okX9_creates rfl (by decide) rfl (Nat.le_of_ble_eq_true rfl) rfl hb31 (c_X9_creates h31) ?_
      refine hs_pop dX9_does_120 rfl ?_
      refine hs_iconst (v := (1 : Int32)) dX9_does_121 (by decide) ?_
      obtain rfl := Option.some.inj h
      exact hs_ireturn dX9_does_122 rfl (by decide) (fun _ => rfl)
    · rw [if_neg hc29] at h
      refine hs_iconst (v := (0 : Int32)) dX9_does_108 (by decide) ?_
      obtain rfl := Option.some.inj h
      exact hs_ireturn dX9_does_109 rfl (by decide) (fun _ => rfl)
  rw [if_neg hc27] at h
  by_cases hc32 : r8 = (115 : Int32)
  · rw [if_pos hc32] at h
    refine hs_lkpC (tgt := 164) (off := 122) (115 : Int32) dX9_does_42 (by decide) hc32 (by decide) (by decide) ?_
    refine hs_aload_n dX9_does_164 3 rfl ?_
    refine hs_iload_n dX9_does_165 2 rfl ?_
    refine hs_iload_n dX9_does_166 1 rfl ?_
    refine hs_iload dX9_does_167 0 rfl ?_
    obtain ⟨r33, h33, h⟩ := hb_bind h
    obtain ⟨h33, nf33, hb33⟩ := hb_on_at h33
    refine hs_callVi (μ' := mX9_setRefusal) (mc := 0) (ms := 0) (rc := 0) (rs := 0) (As := [.int r2, .int r4, .int r6]) (rest := []) (ci := 9) dX9_does_169 lmX9_128 okX9_setRefusal rfl (by decide) rfl (Nat.le_of_ble_eq_true rfl) rfl hb33 (c_X9_setRefusal h33) ?_
    refine hs_if_eq (tgt := 177) dX9_does_172 (by decide) (fun hc34 => ?_) (fun hc34 => ?_)
    · rw [if_pos hc34] at h
      refine hs_aload_n dX9_does_177 3 rfl ?_
      obtain ⟨r35, h35, h⟩ := hb_bind h
      refine hs_getR dX9_does_178 lkX9_7 rfl h35 ?_
      refine hs_iload_n dX9_does_181 2 rfl ?_
      obtain ⟨r36, h36, h⟩ := hb_bind h
      refine hs_callSi (μ' := mX9_at) (mc := 0) (ms := 0) (rc := 0) (rs := 0) (As := [.int r2]) (rest := [.ref r35]) dX9_does_182 lmX9_103 okX9_at rfl (by decide) rfl (Nat.le_of_ble_eq_true rfl) (c_X9_at h36) ?_
      refine hs_iconst (v := (5 : Int32)) dX9_does_185 (by decide) ?_
      refine hs_iadd dX9_does_186 ?_
      refine hs_iload_n dX9_does_187 1 rfl ?_
      refine hs_iadd dX9_does_188 ?_
      refine hs_iload dX9_does_189 0 rfl ?_
      obtain ⟨r37, h37, h⟩ := hb_bind h
      refine hs_iast dX9_does_191 h37 ?_
      refine hs_iconst (v := (1 : Int32)) dX9_does_192 (by decide) ?_
      obtain rfl := Option.some.inj h
      exact hs_ireturn dX9_does_193 rfl (by decide) (fun _ => rfl)
    · rw [if_neg hc34] at h
      refine hs_iconst (v := (0 : Int32)) dX9_does_175 (by decide) ?_
      obtain rfl := Option.some.inj h
      exact hs_ireturn dX9_does_176 rfl (by decide) (fun _ => rfl)
  rw [if_neg hc32] at h
  by_cases hc38 : r8 = (119 : Int32)
  · rw [if_pos hc38] at h
    refine hs_lkpC (tgt := 143) (off := 101) (119 : Int32) dX9_does_42 (by decide) hc38 (by decide) (by decide) ?_
    refine hs_aload_n dX9_does_143 3 rfl ?_
    obtain ⟨r39, h39, h⟩ := hb_bind h
    obtain ⟨h39, nf39, hb39⟩ := hb_on_at h39
    refine hs_callVi (μ' := mX9_many) (mc := 0) (ms := 0) (rc := 0) (rs := 0) (As := []) (rest := []) (ci := 9) dX9_does_144 lmX9_112 okX9_many rfl (by decide) rfl (Nat.le_of_ble_eq_true rfl) rfl hb39 (c_X9_many h39) ?_
    refine hs_bipush (v := (40 : Int32)) dX9_does_147 (by decide) ?_
    refine hs_icmp_ne (tgt := 154) dX9_does_149 (by decide) (fun hc40 => ?_) (fun hc40 => ?_)
    · rw [if_neg hc40] at h
      refine hs_aload_n dX9_does_154 3 rfl ?_
      refine hs_bipush (v := (11 : Int32)) dX9_does_155 (by decide) ?_
      refine hs_iconst (v := (1 : Int32)) dX9_does_157 (by decide) ?_
      obtain ⟨r41, h41, h⟩ := hb_bind h
      obtain ⟨h41, nf41, hb41⟩ := hb_on_at h41
      refine hs_callVi (μ' := mX9_creates) (mc := 0) (ms := 0) (rc := 0) (rs := 0) (As := [.int (11 : Int32), .int (1 : Int32)]) (rest := []) (ci := 9) dX9_does_158 lmX9_119 okX9_creates rfl (by decide) rfl (Nat.le_of_ble_eq_true rfl) rfl hb41 (c_X9_creates h41) ?_
      refine hs_pop dX9_does_161 rfl ?_
      refine hs_iconst (v := (1 : Int32)) dX9_does_162 (by decide) ?_
      obtain rfl := Option.some.inj h
      exact hs_ireturn dX9_does_163 rfl (by decide) (fun _ => rfl)
    · rw [if_pos hc40] at h
      refine hs_iconst (v := (0 : Int32)) dX9_does_152 (by decide) ?_
      obtain rfl := Option.some.inj h
      exact hs_ireturn dX9_does_153 rfl (by decide) (fun _ => rfl)
  rw [if_neg hc38] at h
  refine hs_lkpD (tgt := 256) [(43 : Int32), (45 : Int32), (97 : Int32), (110 : Int32), (115 : Int32), (119 : Int32)] dX9_does_42 (by decide) (by simp only [List.mem_cons, List.not_mem_nil, or_false, forall_eq_or_imp, forall_eq]; exact ⟨hc9, hc16, hc23, hc27, hc32, hc38⟩) (by decide) (by decide) ?_
  refine hs_aload_n dX9_does_256 3 rfl ?_
  obtain ⟨r42, h42, h⟩ := hb_bind h
  obtain ⟨h42, nf42, hb42⟩ := hb_on_at h42
  refine hs_callVi (μ' := mX9_collects) (mc := 0) (ms := 0) (rc := 0) (rs := 0) (As := []) (rest := []) (ci := 9) dX9_does_257 lmX9_142 okX9_collects rfl (by decide) rfl (Nat.le_of_ble_eq_true rfl) rfl hb42 (c_X9_collects h42) ?_
  refine hs_pop dX9_does_260 rfl ?_
  refine hs_iconst (v := (1 : Int32)) dX9_does_261 (by decide) ?_
  obtain rfl := Option.some.inj h
  exact hs_ireturn dX9_does_262 rfl (by decide) (fun _ => rfl)
def mX9_execute : hb_Y := (yX9_execute, cX9_execute, 4, (some .int), [], false)
set_option maxHeartbeats 4000000 in
set_option maxRecDepth 20000 in
theorem c_X9_execute_b67 {G : hb_G} {l : Launch} {z : Bool} : ∀ (n : Nat) (x0 : Nat) (x2 : Int32) (x3 : Int32) (σ : hb_M) (r : (Int32 × hb_M)), f_X9_execute_b67 n x0 x2 x3 σ = some r → hb_T G l z mX9_execute 5 0 0 67 [(0, .ref x0), (2, .int x2), (3, .int x3)] [] σ (.inl (some (.int r.1)), r.2) := by
  intro n
  induction n with
  | zero =>
    intro x0 x2 x3 σ r h
    cases h
  | succ n ih =>
    intro x0 x2 x3 σ r h
    rw [f_X9_execute_b67] at h
    refine hs_iload_n dX9_execute_67 2 rfl ?_
    refine hs_sipush (v := (552 : Int32)) dX9_execute_68 (by decide) ?_
    refine hs_icmp_ge (tgt := 92) dX9_execute_71 (by decide) (fun hc1 => ?_) (fun hc1 => ?_)
    · rw [if_pos hc1] at h
      refine hs_sipush (v := (-1000 : Int32)) dX9_execute_92 (by decide) ?_
      refine hs_iload_n dX9_execute_95 1 rfl ?_
      refine hs_isub dX9_execute_96 ?_
      obtain rfl := Option.some.inj h
      exact hs_ireturn dX9_execute_97 rfl (by rfl) (fun _ => rfl)
    · rw [if_neg hc1] at h
      refine hs_aload_n dX9_execute_74 0 rfl ?_
      obtain ⟨r2, h2, h⟩ := hb_bind h
      refine hs_getR dX9_execute_75 lkX9_7 rfl h2 ?_
      refine hs_iload_n dX9_execute_78 2 rfl ?_
      refine hs_aload_n dX9_execute_79 0 rfl ?_
      obtain ⟨r3, h3, h⟩ := hb_bind h
      refine hs_getR dX9_execute_80 lkX9_16 rfl h3 ?_
      refine hs_iload_n dX9_execute_83 2 rfl ?_
      obtain ⟨r4, h4, h⟩ := hb_bind h
      refine hs_iald dX9_execute_84 h4 ?_
      obtain ⟨r5, h5, h⟩ := hb_bind h
      refine hs_iast dX9_execute_85 h5 ?_
      refine hs_iinc2 (k := (1 : Int32)) (lv' := [(3, .int (x3 + (1 : Int32))), (0, .ref x0), (2, .int x2)]) dX9_execute_86 (by decide) 2 rfl (by decide) rfl ?_
      refine hs_goto (tgt := 67) dX9_execute_89 (by decide) ?_
      refine hs_sub (lv' := [(0, .ref x0), (2, .int x2), (3, .int (x3 + (1 : Int32)))]) [1, 2, 0] rfl ?_
      exact ih _ _ _ _ _ h
set_option maxHeartbeats 4000000 in
set_option maxRecDepth 20000 in
theorem c_X9_execute_b49 {G : hb_G} {l : Launch} {z : Bool} : ∀ (n : Nat) (x0 : Nat) (x2 : Int32) (σ : hb_M) (r : (Int32 × hb_M)), f_X9_execute_b49 n x0 x2 σ = some r → hb_T G l z mX9_execute 5 0 0 49 [(0, .ref x0), (2, .int x2)] [] σ (.inl (some (.int r.1)), r.2) := by
  intro n
  induction n with
  | zero =>
    intro x0 x2 σ r h
    cases h
  | succ n ih =>
    intro x0 x2 σ r h
    rw [f_X9_execute_b49] at h
    refine hs_iload_n dX9_execute_49 1 rfl ?_
    refine hs_aload_n dX9_execute_50 0 rfl ?_
    obtain ⟨r1, h1, h⟩ := hb_bind h
    refine hs_getI dX9_execute_51 lkX9_304 rfl h1 ?_
    refine hs_icmp_ge (tgt := 104) dX9_execute_54 (by decide) (fun hc2 => ?_) (fun hc2 => ?_)
    · rw [if_pos hc2] at h
      refine hs_aload_n dX9_execute_104 0 rfl ?_
      refine hs_aload_n dX9_execute_105 0 rfl ?_
      obtain ⟨r3, h3, h⟩ := hb_bind h
      refine hs_getR dX9_execute_106 lkX9_16 rfl h3 ?_
      obtain ⟨r4, h4, h⟩ := hb_bind h
      obtain ⟨h4, nf4, hb4⟩ := hb_on_at h4
      refine hs_callVv (μ' := mX9_keeps) (mc := 0) (ms := 0) (rc := 0) (rs := 0) (As := [.ref r3]) (rest := []) (ci := 9) dX9_execute_109 lmX9_70 okX9_keeps rfl (by decide) rfl (Nat.le_of_ble_eq_true rfl) rfl hb4 (c_X9_keeps h4) ?_
      refine hs_aload_n dX9_execute_112 0 rfl ?_
      obtain ⟨r5, h5, h⟩ := hb_bind h
      refine hs_getI dX9_execute_113 lkX9_304 rfl h5 ?_
      obtain rfl := Option.some.inj h
      exact hs_ireturn dX9_execute_116 rfl (by rfl) (fun _ => rfl)
    · rw [if_neg hc2] at h
      refine hs_aload_n dX9_execute_57 0 rfl ?_
      refine hs_iload_n dX9_execute_58 1 rfl ?_
      obtain ⟨r6, h6, h⟩ := hb_bind h
      obtain ⟨h6, nf6, hb6⟩ := hb_on_at h6
      refine hs_callVi (μ' := mX9_does) (mc := 0) (ms := 0) (rc := 0) (rs := 0) (As := [.int x2]) (rest := []) (ci := 9) dX9_execute_59 lmX9_316 okX9_does rfl (by decide) rfl (Nat.le_of_ble_eq_true rfl) rfl hb6 (c_X9_does h6) ?_
      refine hs_if_ne (tgt := 98) dX9_execute_62 (by decide) (fun hc7 => ?_) (fun hc7 => ?_)
      · rw [if_neg hc7] at h
        refine hs_iinc2 (k := (1 : Int32)) (lv' := [(2, .int (x2 + (1 : Int32))), (0, .ref x0)]) dX9_execute_98 (by decide) 1 rfl (by decide) rfl ?_
        refine hs_goto (tgt := 49) dX9_execute_101 (by decide) ?_
        refine hs_sub (lv' := [(0, .ref x0), (2, .int (x2 + (1 : Int32)))]) [1, 0] rfl ?_
        exact ih _ _ _ _ h
      · rw [if_pos hc7] at h
        refine hs_iconst (v := (0 : Int32)) dX9_execute_65 (by decide) ?_
        refine hs_istore_n (lv' := [(3, .int (0 : Int32)), (0, .ref x0), (2, .int x2)]) dX9_execute_66 (by decide) rfl ?_
        refine hs_sub (lv' := [(0, .ref x0), (2, .int x2), (3, .int (0 : Int32))]) [1, 2, 0] rfl ?_
        exact c_X9_execute_b67 hb_FU _ _ _ _ _ h
set_option maxHeartbeats 4000000 in
set_option maxRecDepth 20000 in
theorem c_X9_execute_b22 {G : hb_G} {l : Launch} {z : Bool} : ∀ (n : Nat) (x0 : Nat) (x2 : Int32) (σ : hb_M) (r : (Int32 × hb_M)), f_X9_execute_b22 n x0 x2 σ = some r → hb_T G l z mX9_execute 5 0 0 22 [(0, .ref x0), (2, .int x2)] [] σ (.inl (some (.int r.1)), r.2) := by
  intro n
  induction n with
  | zero =>
    intro x0 x2 σ r h
    cases h
  | succ n ih =>
    intro x0 x2 σ r h
    rw [f_X9_execute_b22] at h
    refine hs_iload_n dX9_execute_22 1 rfl ?_
    refine hs_sipush (v := (552 : Int32)) dX9_execute_23 (by decide) ?_
    refine hs_icmp_ge (tgt := 47) dX9_execute_26 (by decide) (fun hc1 => ?_) (fun hc1 => ?_)
    · rw [if_pos hc1] at h
      refine hs_iconst (v := (0 : Int32)) dX9_execute_47 (by decide) ?_
      refine hs_istore_n (lv' := [(2, .int (0 : Int32)), (0, .ref x0)]) dX9_execute_48 (by decide) rfl ?_
      refine hs_sub (lv' := [(0, .ref x0), (2, .int (0 : Int32))]) [1, 0] rfl ?_
      exact c_X9_execute_b49 hb_FU _ _ _ _ h
    · rw [if_neg hc1] at h
      refine hs_aload_n dX9_execute_29 0 rfl ?_
      obtain ⟨r2, h2, h⟩ := hb_bind h
      refine hs_getR dX9_execute_30 lkX9_16 rfl h2 ?_
      refine hs_iload_n dX9_execute_33 1 rfl ?_
      refine hs_aload_n dX9_execute_34 0 rfl ?_
      obtain ⟨r3, h3, h⟩ := hb_bind h
      refine hs_getR dX9_execute_35 lkX9_7 rfl h3 ?_
      refine hs_iload_n dX9_execute_38 1 rfl ?_
      obtain ⟨r4, h4, h⟩ := hb_bind h
      refine hs_iald dX9_execute_39 h4 ?_
      obtain ⟨r5, h5, h⟩ := hb_bind h
      refine hs_iast dX9_execute_40 h5 ?_
      refine hs_iinc2 (k := (1 : Int32)) (lv' := [(2, .int (x2 + (1 : Int32))), (0, .ref x0)]) dX9_execute_41 (by decide) 1 rfl (by decide) rfl ?_
      refine hs_goto (tgt := 22) dX9_execute_44 (by decide) ?_
      refine hs_sub (lv' := [(0, .ref x0), (2, .int (x2 + (1 : Int32)))]) [1, 0] rfl ?_
      exact ih _ _ _ _ h
set_option maxHeartbeats 4000000 in
set_option maxRecDepth 20000 in
theorem c_X9_execute {G : hb_G} {l : Launch} {z : Bool} {x0 : Nat} {σ : hb_M} {r : (Int32 × hb_M)} (h : f_X9_execute x0 σ = some r) : hb_Call G l z 5 0 0 mX9_execute [.ref x0] σ (.inl (some (.int r.1)), r.2) := by
  refine hb_met (by decide) (Nat.le_of_ble_eq_true rfl) ?_
  unfold f_X9_execute at h
  refine hs_aload_n dX9_execute_0 0 rfl ?_
  refine hs_iconst (v := (0 : Int32)) dX9_execute_1 (by decide) ?_
  obtain ⟨r1, h1, h⟩ := hb_bind h
  refine hs_putI dX9_execute_2 lpX9_execute_63 rfl h1 ?_
  refine hs_aload_n dX9_execute_5 0 rfl ?_
  obtain ⟨r2, h2, h⟩ := hb_bind h
  obtain ⟨h2, nf2, hb2⟩ := hb_on_at h2
  refine hs_callVi (μ' := mX9_laysCommands) (mc := 0) (ms := 0) (rc := 0) (rs := 0) (As := []) (rest := []) (ci := 9) dX9_execute_6 lmX9_313 okX9_laysCommands rfl (by decide) rfl (Nat.le_of_ble_eq_true rfl) rfl hb2 (c_X9_laysCommands h2) ?_
  refine hs_istore_n (lv' := [(1, .int r2.1), (0, .ref x0)]) dX9_execute_9 (by decide) rfl ?_
  refine hs_iload_n dX9_execute_10 0 rfl ?_
  refine hs_iconst (v := (-1 : Int32)) dX9_execute_11 (by decide) ?_
  refine hs_icmp_eq (tgt := 20) dX9_execute_12 (by decide) (fun hc3 => ?_) (fun hc3 => ?_)
  · rw [if_pos hc3] at h
    refine hs_iconst (v := (0 : Int32)) dX9_execute_20 (by decide) ?_
    refine hs_istore_n (lv' := [(2, .int (0 : Int32)), (1, .int r2.1), (0, .ref x0)]) dX9_execute_21 (by decide) rfl ?_
    refine hs_sub (lv' := [(0, .ref x0), (2, .int (0 : Int32))]) [2, 0] rfl ?_
    exact c_X9_execute_b22 hb_FU _ _ _ _ h
  · rw [if_neg hc3] at h
    refine hs_bipush (v := (-10 : Int32)) dX9_execute_15 (by decide) ?_
    refine hs_iload_n dX9_execute_17 0 rfl ?_
    refine hs_isub dX9_execute_18 ?_
    obtain rfl := Option.some.inj h
    exact hs_ireturn dX9_execute_19 rfl (by rfl) (fun _ => rfl)
def mX9_isPicture : hb_Y := (yX9_isPicture, cX9_isPicture, 1, (some .boolean), [], false)
theorem okX9_isPicture : hb_okS mX9_isPicture 1 := ⟨⟨hb_w 11 (by decide +kernel) (by decide +kernel), hb_w 1850 (by decide +kernel) (by decide +kernel), ⟨by decide +kernel, by decide +kernel, by decide +kernel⟩, by decide⟩, hb_w 1849 (by decide +kernel) (by decide +kernel)⟩
set_option maxHeartbeats 4000000 in
set_option maxRecDepth 20000 in
theorem c_X9_isPicture {G : hb_G} {l : Launch} {z : Bool} {x0 : Int32} {σ : hb_M} {r : (Int32 × hb_M)} (h : f_X9_isPicture x0 σ = some r) : hb_Call G l z 1 0 0 mX9_isPicture [.int x0] σ (.inl (some (.int r.1)), r.2) := by
  refine hb_met (by decide) (Nat.le_of_ble_eq_true rfl) ?_
  unfold f_X9_isPicture at h
  refine hs_iload_n dX9_isPicture_0 0 rfl ?_
  refine hs_iconst (v := (0 : Int32)) dX9_isPicture_1 (by decide) ?_
  refine hs_iconst (v := (1 : Int32)) dX9_isPicture_2 (by decide) ?_
  obtain ⟨r1, h1, h⟩ := hb_bind h
  refine hs_callSi (μ' := mX9_within) (mc := 0) (ms := 0) (rc := 0) (rs := 0) (As := [.int x0, .int (0 : Int32), .int (1 : Int32)]) (rest := []) dX9_isPicture_3 lmX9_78 okX9_within rfl (by decide) rfl (Nat.le_of_ble_eq_true rfl) (c_X9_within h1) ?_
  obtain ⟨rfl, hn⟩ := hb_zr_at h
  exact hs_ireturn dX9_isPicture_6 rfl hn (fun _ => rfl)
def mX9_serialIn : hb_Y := (yX9_serialIn, cX9_serialIn, 4, (some .int), [], false)
theorem okX9_serialIn : hb_okV mX9_serialIn 2 := ⟨⟨hb_w 11 (by decide +kernel) (by decide +kernel), hb_w 1854 (by decide +kernel) (by decide +kernel), ⟨by decide +kernel, by decide +kernel, by decide +kernel⟩, by decide⟩, hb_w 1853 (by decide +kernel) (by decide +kernel), hb_wp (q := (yX9_serialIn, 29)) 88 (by decide +kernel) (by decide +kernel)⟩
set_option maxHeartbeats 4000000 in
set_option maxRecDepth 20000 in
theorem c_X9_serialIn {G : hb_G} {l : Launch} {z : Bool} {x0 : Nat} {x1 : Int32} {x2 : Int32} {σ : hb_M} {r : (Int32 × hb_M)} (h : f_X9_serialIn x0 x1 x2 σ = some r) : hb_Call G l z 1 0 0 mX9_serialIn [.ref x0, .int x1, .int x2] σ (.inl (some (.int r.1)), r.2) := by
  refine hb_met (by decide) (Nat.le_of_ble_eq_true rfl) ?_
  unfold f_X9_serialIn at h
  refine hs_aload_n dX9_serialIn_0 0 rfl ?_
  obtain ⟨r1, h1, h⟩ := hb_bind h
  refine hs_getR dX9_serialIn_1 lkX9_7 rfl h1 ?_
  refine hs_iload_n dX9_serialIn_4 1 rfl ?_
  obtain ⟨r2, h2, h⟩ := hb_bind h
  refine hs_callSi (μ' := mX9_at) (mc := 0) (ms := 0) (rc := 0) (rs := 0) (As := [.int x1]) (rest := [.ref r1]) dX9_serialIn_5 lmX9_103 okX9_at rfl (by decide) rfl (Nat.le_of_ble_eq_true rfl) (c_X9_at h2) ?_
  refine hs_iconst (v := (5 : Int32)) dX9_serialIn_8 (by decide) ?_
  refine hs_iadd dX9_serialIn_9 ?_
  refine hs_iload_n dX9_serialIn_10 2 rfl ?_
  refine hs_iadd dX9_serialIn_11 ?_
  obtain ⟨r3, h3, h⟩ := hb_bind h
  refine hs_iald dX9_serialIn_12 h3 ?_
  refine hs_istore_n (lv' := [(3, .int r3), (0, .ref x0), (1, .int x1), (2, .int x2)]) dX9_serialIn_13 (by decide) rfl ?_
  refine hs_iload_n dX9_serialIn_14 0 rfl ?_
  refine hs_iconst (v := (-1 : Int32)) dX9_serialIn_15 (by decide) ?_
  refine hs_icmp_ne (tgt := 23) dX9_serialIn_16 (by decide) (fun hc4 => ?_) (fun hc4 => ?_)
  · rw [if_neg hc4] at h
    refine hs_aload_n dX9_serialIn_23 1 rfl ?_
    obtain ⟨r5, h5, h⟩ := hb_bind h
    refine hs_getR dX9_serialIn_24 lkX9_7 rfl h5 ?_
    refine hs_iload_n dX9_serialIn_27 0 rfl ?_
    obtain ⟨r6, h6, h⟩ := hb_bind h
    refine hs_callSi (μ' := mX9_at) (mc := 0) (ms := 0) (rc := 0) (rs := 0) (As := [.int r3]) (rest := [.ref r5]) dX9_serialIn_28 lmX9_103 okX9_at rfl (by decide) rfl (Nat.le_of_ble_eq_true rfl) (c_X9_at h6) ?_
    refine hs_iconst (v := (0 : Int32)) dX9_serialIn_31 (by decide) ?_
    refine hs_iadd dX9_serialIn_32 ?_
    obtain ⟨r7, h7, h⟩ := hb_bind h
    refine hs_iald dX9_serialIn_33 h7 ?_
    obtain rfl := Option.some.inj h
    exact hs_ireturn dX9_serialIn_34 rfl (by rfl) (fun _ => rfl)
  · rw [if_pos hc4] at h
    refine hs_iconst (v := (0 : Int32)) dX9_serialIn_19 (by decide) ?_
    refine hs_goto (tgt := 34) dX9_serialIn_20 (by decide) ?_
    obtain rfl := Option.some.inj h
    exact hs_ireturn dX9_serialIn_34 rfl (by rfl) (fun _ => rfl)
def mX9_take : hb_Y := (yX9_take, cX9_take, 7, (some .int), [], false)
set_option maxHeartbeats 4000000 in
set_option maxRecDepth 20000 in
theorem c_X9_take_b146 {G : hb_G} {l : Launch} {z : Bool}  (k21 : Nat → Int32 → Int32 → Int32 → hb_M → Option (Int32 × hb_M)) (hk21 : ∀ (x0 : Nat) (x1 : Int32) (x2 : Int32) (x3 : Int32) (σ : hb_M) (r : (Int32 × hb_M)), k21 x0 x1 x2 x3 σ = some r → hb_T G l z mX9_take 3 0 0 21 [(0, .ref x0), (1, .int x1), (2, .int x2), (3, .int x3)] [] σ (.inl (some (.int r.1)), r.2)) (k112 : Nat → Int32 → Int32 → Int32 → Int32 → Int32 → Int32 → hb_M → Option (Int32 × hb_M)) (hk112 : ∀ (x0 : Nat) (x1 : Int32) (x2 : Int32) (x3 : Int32) (x4 : Int32) (x5 : Int32) (x6 : Int32) (σ : hb_M) (r : (Int32 × hb_M)), k112 x0 x1 x2 x3 x4 x5 x6 σ = some r → hb_T G l z mX9_take 3 0 0 112 [(0, .ref x0), (1, .int x1), (2, .int x2), (3, .int x3), (4, .int x4), (5, .int x5), (6, .int x6)] [] σ (.inl (some (.int r.1)), r.2))  {x0 : Nat} {x1 : Int32} {x2 : Int32} {x3 : Int32} {x4 : Int32} {x5 : Int32} {x6 : Int32} {s0 : Nat} {s1 : Int32} {s2 : Int32} {σ : hb_M} {r : (Int32 × hb_M)} (h : f_X9_take_b146 k21 k112 x0 x1 x2 x3 x4 x5 x6 s0 s1 s2 σ = some r) : hb_T G l z mX9_take 3 0 0 146 [(0, .ref x0), (1, .int x1), (2, .int x2), (3, .int x3), (4, .int x4), (5, .int x5), (6, .int x6)] [.int s2, .int s1, .ref s0] σ (.inl (some (.int r.1)), r.2) := by
  unfold f_X9_take_b146 at h
  obtain ⟨r1, h1, h⟩ := hb_bind h
  refine hs_iast dX9_take_146 h1 ?_
  refine hs_iinc2 (k := (1 : Int32)) (lv' := [(6, .int (x6 + (1 : Int32))), (0, .ref x0), (1, .int x1), (2, .int x2), (3, .int x3), (4, .int x4), (5, .int x5)]) dX9_take_147 (by decide) 6 rfl (by decide) rfl ?_
  refine hs_goto (tgt := 112) dX9_take_150 (by decide) ?_
  refine hs_sub (lv' := [(0, .ref x0), (1, .int x1), (2, .int x2), (3, .int x3), (4, .int x4), (5, .int x5), (6, .int (x6 + (1 : Int32)))]) [1, 2, 3, 4, 5, 6, 0] rfl ?_
  exact hk112 _ _ _ _ _ _ _ _ _ h
set_option maxHeartbeats 4000000 in
set_option maxRecDepth 20000 in
theorem c_X9_take_b112 {G : hb_G} {l : Launch} {z : Bool}  (k21 : Nat → Int32 → Int32 → Int32 → hb_M → Option (Int32 × hb_M)) (hk21 : ∀ (x0 : Nat) (x1 : Int32) (x2 : Int32) (x3 : Int32) (σ : hb_M) (r : (Int32 × hb_M)), k21 x0 x1 x2 x3 σ = some r → hb_T G l z mX9_take 3 0 0 21 [(0, .ref x0), (1, .int x1), (2, .int x2), (3, .int x3)] [] σ (.inl (some (.int r.1)), r.2)) : ∀ (n : Nat) (x0 : Nat) (x1 : Int32) (x2 : Int32) (x3 : Int32) (x4 : Int32) (x5 : Int32) (x6 : Int32) (σ : hb_M) (r : (Int32 × hb_M)), f_X9_take_b112 k21 n x0 x1 x2 x3 x4 x5 x6 σ = some r → hb_T G l z mX9_take 3 0 0 112 [(0, .ref x0), (1, .int x1), (2, .int x2), (3, .int x3), (4, .int x4), (5, .int x5), (6, .int x6)] [] σ (.inl (some (.int r.1)), r.2) := by
  intro n
  induction n with
  | zero =>
    intro x0 x1 x2 x3 x4 x5 x6 σ r h
    cases h
  | succ n ih =>
    intro x0 x1 x2 x3 x4 x5 x6 σ r h
    rw [f_X9_take_b112] at h
    refine hs_iload dX9_take_112 6 rfl ?_
    refine hs_bipush (v := (8 : Int32)) dX9_take_114 (by decide) ?_
    refine hs_icmp_ge (tgt := 153) dX9_take_116 (by decide) (fun hc1 => ?_) (fun hc1 => ?_)
    · rw [if_pos hc1] at h
      refine hs_iinc2 (k := (1 : Int32)) (lv' := [(3, .int (x3 + (1 : Int32))), (0, .ref x0), (1, .int x1), (2, .int x2), (4, .int x4), (5, .int x5), (6, .int x6)]) dX9_take_153 (by decide) 3 rfl (by decide) rfl ?_
      refine hs_goto (tgt := 21) dX9_take_156 (by decide) ?_
      refine hs_sub (lv' := [(0, .ref x0), (1, .int x1), (2, .int x2), (3, .int (x3 + (1 : Int32)))]) [1, 2, 3, 0] rfl ?_
      exact hk21 _ _ _ _ _ _ h
    · rw [if_neg hc1] at h
      refine hs_aload_n dX9_take_119 0 rfl ?_
      obtain ⟨r2, h2, h⟩ := hb_bind h
      refine hs_getR dX9_take_120 lkX9_22 rfl h2 ?_
      refine hs_iload dX9_take_123 4 rfl ?_
      refine hs_iconst (v := (5 : Int32)) dX9_take_125 (by decide) ?_
      refine hs_iadd dX9_take_126 ?_
      refine hs_iload dX9_take_127 6 rfl ?_
      refine hs_iadd dX9_take_129 ?_
      refine hs_iload dX9_take_130 5 rfl ?_
      refine hs_if_eq (tgt := 145) dX9_take_132 (by decide) (fun hc3 => ?_) (fun hc3 => ?_)
      · rw [if_pos hc3] at h
        refine hs_iconst (v := (0 : Int32)) dX9_take_145 (by decide) ?_
        refine hs_sub (lv' := [(0, .ref x0), (1, .int x1), (2, .int x2), (3, .int x3), (4, .int x4), (5, .int x5), (6, .int x6)]) [0, 1, 2, 3, 4, 5, 6] rfl ?_
        exact c_X9_take_b146 k21 hk21 (f_X9_take_b112 k21 n) ih h
      · rw [if_neg hc3] at h
        refine hs_aload_n dX9_take_135 0 rfl ?_
        refine hs_iload_n dX9_take_136 3 rfl ?_
        refine hs_iload dX9_take_137 6 rfl ?_
        obtain ⟨r4, h4, h⟩ := hb_bind h
        obtain ⟨h4, nf4, hb4⟩ := hb_on_at h4
        refine hs_callVi (μ' := mX9_serialIn) (mc := 0) (ms := 0) (rc := 0) (rs := 0) (As := [.int x3, .int x6]) (rest := [.int ((x4 + (5 : Int32)) + x6), .ref r2]) (ci := 9) dX9_take_139 lmX9_322 okX9_serialIn rfl (by decide) rfl (Nat.le_of_ble_eq_true rfl) rfl hb4 (c_X9_serialIn h4) ?_
        refine hs_goto (tgt := 146) dX9_take_142 (by decide) ?_
        refine hs_sub (lv' := [(0, .ref x0), (1, .int x1), (2, .int x2), (3, .int x3), (4, .int x4), (5, .int x5), (6, .int x6)]) [0, 1, 2, 3, 4, 5, 6] rfl ?_
        exact c_X9_take_b146 k21 hk21 (f_X9_take_b112 k21 n) ih h
set_option maxHeartbeats 4000000 in
set_option maxRecDepth 20000 in
theorem c_X9_take_b102 {G : hb_G} {l : Launch} {z : Bool}  (k21 : Nat → Int32 → Int32 → Int32 → hb_M → Option (Int32 × hb_M)) (hk21 : ∀ (x0 : Nat) (x1 : Int32) (x2 : Int32) (x3 : Int32) (σ : hb_M) (r : (Int32 × hb_M)), k21 x0 x1 x2 x3 σ = some r → hb_T G l z mX9_take 3 0 0 21 [(0, .ref x0), (1, .int x1), (2, .int x2), (3, .int x3)] [] σ (.inl (some (.int r.1)), r.2)) (k66 : Nat → Int32 → Int32 → Int32 → Int32 → Int32 → Int32 → hb_M → Option (Int32 × hb_M)) (hk66 : ∀ (x0 : Nat) (x1 : Int32) (x2 : Int32) (x3 : Int32) (x4 : Int32) (x5 : Int32) (x6 : Int32) (σ : hb_M) (r : (Int32 × hb_M)), k66 x0 x1 x2 x3 x4 x5 x6 σ = some r → hb_T G l z mX9_take 3 0 0 66 [(0, .ref x0), (1, .int x1), (2, .int x2), (3, .int x3), (4, .int x4), (5, .int x5), (6, .int x6)] [] σ (.inl (some (.int r.1)), r.2))  {x0 : Nat} {x1 : Int32} {x2 : Int32} {x3 : Int32} {x4 : Int32} {x5 : Int32} {x6 : Int32} {s0 : Nat} {s1 : Int32} {s2 : Int32} {σ : hb_M} {r : (Int32 × hb_M)} (h : f_X9_take_b102 k21 k66 x0 x1 x2 x3 x4 x5 x6 s0 s1 s2 σ = some r) : hb_T G l z mX9_take 3 0 0 102 [(0, .ref x0), (1, .int x1), (2, .int x2), (3, .int x3), (4, .int x4), (5, .int x5), (6, .int x6)] [.int s2, .int s1, .ref s0] σ (.inl (some (.int r.1)), r.2) := by
  unfold f_X9_take_b102 at h
  obtain ⟨r1, h1, h⟩ := hb_bind h
  refine hs_iast dX9_take_102 h1 ?_
  refine hs_iinc2 (k := (1 : Int32)) (lv' := [(6, .int (x6 + (1 : Int32))), (0, .ref x0), (1, .int x1), (2, .int x2), (3, .int x3), (4, .int x4), (5, .int x5)]) dX9_take_103 (by decide) 6 rfl (by decide) rfl ?_
  refine hs_goto (tgt := 66) dX9_take_106 (by decide) ?_
  refine hs_sub (lv' := [(0, .ref x0), (1, .int x1), (2, .int x2), (3, .int x3), (4, .int x4), (5, .int x5), (6, .int (x6 + (1 : Int32)))]) [1, 2, 3, 4, 5, 6, 0] rfl ?_
  exact hk66 _ _ _ _ _ _ _ _ _ h
set_option maxHeartbeats 4000000 in
set_option maxRecDepth 20000 in
theorem c_X9_take_b66 {G : hb_G} {l : Launch} {z : Bool}  (k21 : Nat → Int32 → Int32 → Int32 → hb_M → Option (Int32 × hb_M)) (hk21 : ∀ (x0 : Nat) (x1 : Int32) (x2 : Int32) (x3 : Int32) (σ : hb_M) (r : (Int32 × hb_M)), k21 x0 x1 x2 x3 σ = some r → hb_T G l z mX9_take 3 0 0 21 [(0, .ref x0), (1, .int x1), (2, .int x2), (3, .int x3)] [] σ (.inl (some (.int r.1)), r.2)) : ∀ (n : Nat) (x0 : Nat) (x1 : Int32) (x2 : Int32) (x3 : Int32) (x4 : Int32) (x5 : Int32) (x6 : Int32) (σ : hb_M) (r : (Int32 × hb_M)), f_X9_take_b66 k21 n x0 x1 x2 x3 x4 x5 x6 σ = some r → hb_T G l z mX9_take 3 0 0 66 [(0, .ref x0), (1, .int x1), (2, .int x2), (3, .int x3), (4, .int x4), (5, .int x5), (6, .int x6)] [] σ (.inl (some (.int r.1)), r.2) := by
  intro n
  induction n with
  | zero =>
    intro x0 x1 x2 x3 x4 x5 x6 σ r h
    cases h
  | succ n ih =>
    intro x0 x1 x2 x3 x4 x5 x6 σ r h
    rw [f_X9_take_b66] at h
    refine hs_iload dX9_take_66 6 rfl ?_
    refine hs_iconst (v := (5 : Int32)) dX9_take_68 (by decide) ?_
    refine hs_icmp_ge (tgt := 109) dX9_take_69 (by decide) (fun hc1 => ?_) (fun hc1 => ?_)
    · rw [if_pos hc1] at h
      refine hs_iconst (v := (0 : Int32)) dX9_take_109 (by decide) ?_
      refine hs_istore (lv' := [(6, .int (0 : Int32)), (0, .ref x0), (1, .int x1), (2, .int x2), (3, .int x3), (4, .int x4), (5, .int x5)]) dX9_take_110 (by decide) rfl ?_
      refine hs_sub (lv' := [(0, .ref x0), (1, .int x1), (2, .int x2), (3, .int x3), (4, .int x4), (5, .int x5), (6, .int (0 : Int32))]) [1, 2, 3, 4, 5, 6, 0] rfl ?_
      exact c_X9_take_b112 k21 hk21 hb_FU _ _ _ _ _ _ _ _ _ h
    · rw [if_neg hc1] at h
      refine hs_aload_n dX9_take_72 0 rfl ?_
      obtain ⟨r2, h2, h⟩ := hb_bind h
      refine hs_getR dX9_take_73 lkX9_22 rfl h2 ?_
      refine hs_iload dX9_take_76 4 rfl ?_
      refine hs_iload dX9_take_78 6 rfl ?_
      refine hs_iadd dX9_take_80 ?_
      refine hs_iload dX9_take_81 5 rfl ?_
      refine hs_if_eq (tgt := 101) dX9_take_83 (by decide) (fun hc3 => ?_) (fun hc3 => ?_)
      · rw [if_pos hc3] at h
        refine hs_iconst (v := (0 : Int32)) dX9_take_101 (by decide) ?_
        refine hs_sub (lv' := [(0, .ref x0), (1, .int x1), (2, .int x2), (3, .int x3), (4, .int x4), (5, .int x5), (6, .int x6)]) [0, 1, 2, 3, 4, 5, 6] rfl ?_
        exact c_X9_take_b102 k21 hk21 (f_X9_take_b66 k21 n) ih h
      · rw [if_neg hc3] at h
        refine hs_aload_n dX9_take_86 0 rfl ?_
        obtain ⟨r4, h4, h⟩ := hb_bind h
        refine hs_getR dX9_take_87 lkX9_7 rfl h4 ?_
        refine hs_iload_n dX9_take_90 3 rfl ?_
        obtain ⟨r5, h5, h⟩ := hb_bind h
        refine hs_callSi (μ' := mX9_at) (mc := 0) (ms := 0) (rc := 0) (rs := 0) (As := [.int x3]) (rest := [.ref r4, .int (x4 + x6), .ref r2]) dX9_take_91 lmX9_103 okX9_at rfl (by decide) rfl (Nat.le_of_ble_eq_true rfl) (c_X9_at h5) ?_
        refine hs_iload dX9_take_94 6 rfl ?_
        refine hs_iadd dX9_take_96 ?_
        obtain ⟨r6, h6, h⟩ := hb_bind h
        refine hs_iald dX9_take_97 h6 ?_
        refine hs_goto (tgt := 102) dX9_take_98 (by decide) ?_
        refine hs_sub (lv' := [(0, .ref x0), (1, .int x1), (2, .int x2), (3, .int x3), (4, .int x4), (5, .int x5), (6, .int x6)]) [0, 1, 2, 3, 4, 5, 6] rfl ?_
        exact c_X9_take_b102 k21 hk21 (f_X9_take_b66 k21 n) ih h
set_option maxHeartbeats 4000000 in
set_option maxRecDepth 20000 in
theorem c_X9_take_b61 {G : hb_G} {l : Launch} {z : Bool}  (k21 : Nat → Int32 → Int32 → Int32 → hb_M → Option (Int32 × hb_M)) (hk21 : ∀ (x0 : Nat) (x1 : Int32) (x2 : Int32) (x3 : Int32) (σ : hb_M) (r : (Int32 × hb_M)), k21 x0 x1 x2 x3 σ = some r → hb_T G l z mX9_take 3 0 0 21 [(0, .ref x0), (1, .int x1), (2, .int x2), (3, .int x3)] [] σ (.inl (some (.int r.1)), r.2))  {x0 : Nat} {x1 : Int32} {x3 : Int32} {x4 : Int32} {x5 : Int32} {s0 : Int32} {s1 : Int32} {σ : hb_M} {r : (Int32 × hb_M)} (h : f_X9_take_b61 k21 x0 x1 x3 x4 x5 s0 s1 σ = some r) : hb_T G l z mX9_take 3 0 0 61 [(0, .ref x0), (1, .int x1), (3, .int x3), (4, .int x4), (5, .int x5)] [.int s1, .int s0] σ (.inl (some (.int r.1)), r.2) := by
  unfold f_X9_take_b61 at h
  refine hs_iadd dX9_take_61 ?_
  refine hs_istore_n (lv' := [(2, .int (s0 + s1)), (0, .ref x0), (1, .int x1), (3, .int x3), (4, .int x4), (5, .int x5)]) dX9_take_62 (by decide) rfl ?_
  refine hs_iconst (v := (0 : Int32)) dX9_take_63 (by decide) ?_
  refine hs_istore (lv' := [(6, .int (0 : Int32)), (2, .int (s0 + s1)), (0, .ref x0), (1, .int x1), (3, .int x3), (4, .int x4), (5, .int x5)]) dX9_take_64 (by decide) rfl ?_
  refine hs_sub (lv' := [(0, .ref x0), (1, .int x1), (2, .int (s0 + s1)), (3, .int x3), (4, .int x4), (5, .int x5), (6, .int (0 : Int32))]) [2, 3, 1, 4, 5, 6, 0] rfl ?_
  exact c_X9_take_b66 k21 hk21 hb_FU _ _ _ _ _ _ _ _ _ h
set_option maxHeartbeats 4000000 in
set_option maxRecDepth 20000 in
theorem c_X9_take_b21 {G : hb_G} {l : Launch} {z : Bool} : ∀ (n : Nat) (x0 : Nat) (x1 : Int32) (x2 : Int32) (x3 : Int32) (σ : hb_M) (r : (Int32 × hb_M)), f_X9_take_b21 n x0 x1 x2 x3 σ = some r → hb_T G l z mX9_take 3 0 0 21 [(0, .ref x0), (1, .int x1), (2, .int x2), (3, .int x3)] [] σ (.inl (some (.int r.1)), r.2) := by
  intro n
  induction n with
  | zero =>
    intro x0 x1 x2 x3 σ r h
    cases h
  | succ n ih =>
    intro x0 x1 x2 x3 σ r h
    rw [f_X9_take_b21] at h
    refine hs_iload_n dX9_take_21 3 rfl ?_
    refine hs_bipush (v := (40 : Int32)) dX9_take_22 (by decide) ?_
    refine hs_icmp_ge (tgt := 159) dX9_take_24 (by decide) (fun hc1 => ?_) (fun hc1 => ?_)
    · rw [if_pos hc1] at h
      refine hs_aload_n dX9_take_159 0 rfl ?_
      obtain ⟨r2, h2, h⟩ := hb_bind h
      refine hs_getR dX9_take_160 lkX9_25 rfl h2 ?_
      refine hs_iload_n dX9_take_163 1 rfl ?_
      refine hs_iconst (v := (1 : Int32)) dX9_take_164 (by decide) ?_
      obtain ⟨r3, h3, h⟩ := hb_bind h
      refine hs_iast dX9_take_165 h3 ?_
      refine hs_aload_n dX9_take_166 0 rfl ?_
      obtain ⟨r4, h4, h⟩ := hb_bind h
      refine hs_getR dX9_take_167 lkX9_28 rfl h4 ?_
      refine hs_iload_n dX9_take_170 1 rfl ?_
      refine hs_iload_n dX9_take_171 2 rfl ?_
      obtain ⟨r5, h5, h⟩ := hb_bind h
      refine hs_iast dX9_take_172 h5 ?_
      refine hs_aload_n dX9_take_173 0 rfl ?_
      obtain ⟨r6, h6, h⟩ := hb_bind h
      obtain ⟨h6, nf6, hb6⟩ := hb_on_at h6
      refine hs_callVi (μ' := mX9_many) (mc := 0) (ms := 0) (rc := 0) (rs := 0) (As := []) (rest := []) (ci := 9) dX9_take_174 lmX9_112 okX9_many rfl (by decide) rfl (Nat.le_of_ble_eq_true rfl) rfl hb6 (c_X9_many h6) ?_
      obtain rfl := Option.some.inj h
      exact hs_ireturn dX9_take_177 rfl (by rfl) (fun _ => rfl)
    · rw [if_neg hc1] at h
      refine hs_sipush (v := (520 : Int32)) dX9_take_27 (by decide) ?_
      refine hs_iload_n dX9_take_30 1 rfl ?_
      refine hs_imul dX9_take_31 ?_
      refine hs_bipush (v := (13 : Int32)) dX9_take_32 (by decide) ?_
      refine hs_iload_n dX9_take_34 3 rfl ?_
      refine hs_imul dX9_take_35 ?_
      refine hs_iadd dX9_take_36 ?_
      refine hs_istore (lv' := [(4, .int (((520 : Int32) * x1) + ((13 : Int32) * x3))), (0, .ref x0), (1, .int x1), (2, .int x2), (3, .int x3)]) dX9_take_37 (by decide) rfl ?_
      refine hs_aload_n dX9_take_39 1 rfl ?_
      refine hs_iload_n dX9_take_40 4 rfl ?_
      obtain ⟨r7, h7, h⟩ := hb_bind h
      obtain ⟨h7, nf7, hb7⟩ := hb_on_at h7
      refine hs_callVi (μ' := mX9_isObject) (mc := 0) (ms := 0) (rc := 0) (rs := 0) (As := [.int x3]) (rest := []) (ci := 9) dX9_take_41 lmX9_106 okX9_isObject rfl (by decide) rfl (Nat.le_of_ble_eq_true rfl) rfl hb7 (c_X9_isObject h7) ?_
      refine hs_istore (lv' := [(5, .int r7.1), (4, .int (((520 : Int32) * x1) + ((13 : Int32) * x3))), (0, .ref x0), (1, .int x1), (2, .int x2), (3, .int x3)]) dX9_take_44 (by decide) rfl ?_
      refine hs_iload_n dX9_take_46 4 rfl ?_
      refine hs_iload dX9_take_47 0 rfl ?_
      refine hs_if_eq (tgt := 60) dX9_take_49 (by decide) (fun hc8 => ?_) (fun hc8 => ?_)
      · rw [if_pos hc8] at h
        refine hs_iconst (v := (0 : Int32)) dX9_take_60 (by decide) ?_
        refine hs_sub (lv' := [(0, .ref x0), (1, .int x1), (3, .int x3), (4, .int (((520 : Int32) * x1) + ((13 : Int32) * x3))), (5, .int r7.1)]) [2, 3, 5, 1, 0] rfl ?_
        exact c_X9_take_b61 (f_X9_take_b21 n) ih h
      · rw [if_neg hc8] at h
        refine hs_aload_n dX9_take_52 2 rfl ?_
        refine hs_iload_n dX9_take_53 5 rfl ?_
        obtain ⟨r9, h9, h⟩ := hb_bind h
        obtain ⟨h9, nf9, hb9⟩ := hb_on_at h9
        refine hs_callVi (μ' := mX9_sizeOf) (mc := 0) (ms := 0) (rc := 0) (rs := 0) (As := [.int x3]) (rest := [.int x2]) (ci := 9) dX9_take_54 lmX9_109 okX9_sizeOf rfl (by decide) rfl (Nat.le_of_ble_eq_true rfl) rfl hb9 (c_X9_sizeOf h9) ?_
        refine hs_goto (tgt := 61) dX9_take_57 (by decide) ?_
        refine hs_sub (lv' := [(0, .ref x0), (1, .int x1), (3, .int x3), (4, .int (((520 : Int32) * x1) + ((13 : Int32) * x3))), (5, .int r7.1)]) [2, 3, 5, 1, 0] rfl ?_
        exact c_X9_take_b61 (f_X9_take_b21 n) ih h
set_option maxHeartbeats 4000000 in
set_option maxRecDepth 20000 in
theorem c_X9_take {G : hb_G} {l : Launch} {z : Bool} {x0 : Nat} {x1 : Int32} {σ : hb_M} {r : (Int32 × hb_M)} (h : f_X9_take x0 x1 σ = some r) : hb_Call G l z 3 0 0 mX9_take [.ref x0, .int x1] σ (.inl (some (.int r.1)), r.2) := by
  refine hb_met (by decide) (Nat.le_of_ble_eq_true rfl) ?_
  unfold f_X9_take at h
  refine hs_aload_n dX9_take_0 0 rfl ?_
  refine hs_aload_n dX9_take_1 0 rfl ?_
  refine hs_iload_n dX9_take_2 1 rfl ?_
  obtain ⟨r1, h1, h⟩ := hb_bind h
  refine hs_callSi (μ' := mX9_isPicture) (mc := 0) (ms := 0) (rc := 0) (rs := 0) (As := [.int x1]) (rest := [.ref x0, .ref x0]) dX9_take_3 lmX9_319 okX9_isPicture rfl (by decide) rfl (Nat.le_of_ble_eq_true rfl) (c_X9_isPicture h1) ?_
  obtain ⟨r2, h2, h⟩ := hb_bind h
  obtain ⟨h2, nf2, hb2⟩ := hb_on_at h2
  refine hs_callVi (μ' := mX9_need) (mc := 0) (ms := 0) (rc := 0) (rs := 0) (As := [.int r1.1]) (rest := [.ref x0]) (ci := 9) dX9_take_6 lmX9_187 okX9_need rfl (by decide) rfl (Nat.le_of_ble_eq_true rfl) rfl hb2 (c_X9_need h2) ?_
  obtain ⟨r3, h3, h⟩ := hb_bind h
  obtain ⟨h3, nf3, hb3⟩ := hb_on_at h3
  refine hs_callVi (μ' := mX9_refused) (mc := 0) (ms := 0) (rc := 0) (rs := 0) (As := [.int r2.1]) (rest := []) (ci := 9) dX9_take_9 lmX9_74 okX9_refused rfl (by decide) rfl (Nat.le_of_ble_eq_true rfl) rfl hb3 (c_X9_refused h3) ?_
  refine hs_if_eq (tgt := 17) dX9_take_12 (by decide) (fun hc4 => ?_) (fun hc4 => ?_)
  · rw [if_pos hc4] at h
    refine hs_iconst (v := (0 : Int32)) dX9_take_17 (by decide) ?_
    refine hs_istore_n (lv' := [(2, .int (0 : Int32)), (0, .ref x0), (1, .int x1)]) dX9_take_18 (by decide) rfl ?_
    refine hs_iconst (v := (0 : Int32)) dX9_take_19 (by decide) ?_
    refine hs_istore_n (lv' := [(3, .int (0 : Int32)), (2, .int (0 : Int32)), (0, .ref x0), (1, .int x1)]) dX9_take_20 (by decide) rfl ?_
    refine hs_sub (lv' := [(0, .ref x0), (1, .int x1), (2, .int (0 : Int32)), (3, .int (0 : Int32))]) [2, 3, 1, 0] rfl ?_
    exact c_X9_take_b21 hb_FU _ _ _ _ _ _ h
  · rw [if_neg hc4] at h
    refine hs_iconst (v := (0 : Int32)) dX9_take_15 (by decide) ?_
    obtain rfl := Option.some.inj h
    exact hs_ireturn dX9_take_16 rfl (by rfl) (fun _ => rfl)
def mX9_inPicture : hb_Y := (yX9_inPicture, cX9_inPicture, 4, (some .int), [], false)
theorem okX9_inPicture : hb_okV mX9_inPicture 2 := ⟨⟨hb_w 11 (by decide +kernel) (by decide +kernel), hb_w 1862 (by decide +kernel) (by decide +kernel), ⟨by decide +kernel, by decide +kernel, by decide +kernel⟩, by decide⟩, hb_w 1861 (by decide +kernel) (by decide +kernel), hb_wp (q := (yX9_inPicture, 29)) 89 (by decide +kernel) (by decide +kernel)⟩
set_option maxHeartbeats 4000000 in
set_option maxRecDepth 20000 in
theorem c_X9_inPicture_b2 {G : hb_G} {l : Launch} {z : Bool} : ∀ (n : Nat) (x0 : Nat) (x1 : Int32) (x2 : Int32) (x3 : Int32) (σ : hb_M) (r : (Int32 × hb_M)), f_X9_inPicture_b2 n x0 x1 x2 x3 σ = some r → hb_T G l z mX9_inPicture 0 0 0 2 [(0, .ref x0), (1, .int x1), (2, .int x2), (3, .int x3)] [] σ (.inl (some (.int r.1)), r.2) := by
  intro n
  induction n with
  | zero =>
    intro x0 x1 x2 x3 σ r h
    cases h
  | succ n ih =>
    intro x0 x1 x2 x3 σ r h
    rw [f_X9_inPicture_b2] at h
    refine hs_iload_n dX9_inPicture_2 3 rfl ?_
    refine hs_bipush (v := (40 : Int32)) dX9_inPicture_3 (by decide) ?_
    refine hs_icmp_ge (tgt := 44) dX9_inPicture_5 (by decide) (fun hc1 => ?_) (fun hc1 => ?_)
    · rw [if_pos hc1] at h
      refine hs_iconst (v := (-1 : Int32)) dX9_inPicture_44 (by decide) ?_
      obtain rfl := Option.some.inj h
      exact hs_ireturn dX9_inPicture_45 rfl (by rfl) (fun _ => rfl)
    · rw [if_neg hc1] at h
      refine hs_aload_n dX9_inPicture_8 0 rfl ?_
      obtain ⟨r2, h2, h⟩ := hb_bind h
      refine hs_getR dX9_inPicture_9 lkX9_22 rfl h2 ?_
      refine hs_sipush (v := (520 : Int32)) dX9_inPicture_12 (by decide) ?_
      refine hs_iload_n dX9_inPicture_15 1 rfl ?_
      refine hs_imul dX9_inPicture_16 ?_
      refine hs_bipush (v := (13 : Int32)) dX9_inPicture_17 (by decide) ?_
      refine hs_iload_n dX9_inPicture_19 3 rfl ?_
      refine hs_imul dX9_inPicture_20 ?_
      refine hs_iadd dX9_inPicture_21 ?_
      obtain ⟨r3, h3, h⟩ := hb_bind h
      refine hs_iald dX9_inPicture_22 h3 ?_
      refine hs_iload_n dX9_inPicture_23 2 rfl ?_
      refine hs_icmp_ne (tgt := 38) dX9_inPicture_24 (by decide) (fun hc4 => ?_) (fun hc4 => ?_)
      · rw [if_neg hc4] at h
        refine hs_iinc2 (k := (1 : Int32)) (lv' := [(3, .int (x3 + (1 : Int32))), (0, .ref x0), (1, .int x1), (2, .int x2)]) dX9_inPicture_38 (by decide) 3 rfl (by decide) rfl ?_
        refine hs_goto (tgt := 2) dX9_inPicture_41 (by decide) ?_
        refine hs_sub (lv' := [(0, .ref x0), (1, .int x1), (2, .int x2), (3, .int (x3 + (1 : Int32)))]) [1, 2, 3, 0] rfl ?_
        exact ih _ _ _ _ _ _ h
      · rw [if_pos hc4] at h
        refine hs_sipush (v := (520 : Int32)) dX9_inPicture_27 (by decide) ?_
        refine hs_iload_n dX9_inPicture_30 1 rfl ?_
        refine hs_imul dX9_inPicture_31 ?_
        refine hs_bipush (v := (13 : Int32)) dX9_inPicture_32 (by decide) ?_
        refine hs_iload_n dX9_inPicture_34 3 rfl ?_
        refine hs_imul dX9_inPicture_35 ?_
        refine hs_iadd dX9_inPicture_36 ?_
        obtain rfl := Option.some.inj h
        exact hs_ireturn dX9_inPicture_37 rfl (by rfl) (fun _ => rfl)
set_option maxHeartbeats 4000000 in
set_option maxRecDepth 20000 in
theorem c_X9_inPicture {G : hb_G} {l : Launch} {z : Bool} {x0 : Nat} {x1 : Int32} {x2 : Int32} {σ : hb_M} {r : (Int32 × hb_M)} (h : f_X9_inPicture x0 x1 x2 σ = some r) : hb_Call G l z 0 0 0 mX9_inPicture [.ref x0, .int x1, .int x2] σ (.inl (some (.int r.1)), r.2) := by
  refine hb_met (by decide) (Nat.le_of_ble_eq_true rfl) ?_
  unfold f_X9_inPicture at h
  refine hs_iconst (v := (0 : Int32)) dX9_inPicture_0 (by decide) ?_
  refine hs_istore_n (lv' := [(3, .int (0 : Int32)), (0, .ref x0), (1, .int x1), (2, .int x2)]) dX9_inPicture_1 (by decide) rfl ?_
  refine hs_sub (lv' := [(0, .ref x0), (1, .int x1), (2, .int x2), (3, .int (0 : Int32))]) [1, 2, 3, 0] rfl ?_
  exact c_X9_inPicture_b2 hb_FU _ _ _ _ _ _ h
def mX9_hasChanged : hb_Y := (yX9_hasChanged, cX9_hasChanged, 5, (some .boolean), [], false)
theorem okX9_hasChanged : hb_okV mX9_hasChanged 2 := ⟨⟨hb_w 11 (by decide +kernel) (by decide +kernel), hb_w 1866 (by decide +kernel) (by decide +kernel), ⟨by decide +kernel, by decide +kernel, by decide +kernel⟩, by decide⟩, hb_w 1865 (by decide +kernel) (by decide +kernel), hb_wp (q := (yX9_hasChanged, 29)) 90 (by decide +kernel) (by decide +kernel)⟩
set_option maxHeartbeats 4000000 in
set_option maxRecDepth 20000 in
theorem c_X9_hasChanged_b99 {G : hb_G} {l : Launch} {z : Bool}  (k53 : Nat → Int32 → Int32 → Int32 → Int32 → hb_M → Option (Int32 × hb_M)) (hk53 : ∀ (x0 : Nat) (x1 : Int32) (x2 : Int32) (x3 : Int32) (x4 : Int32) (σ : hb_M) (r : (Int32 × hb_M)), k53 x0 x1 x2 x3 x4 σ = some r → hb_T G l z mX9_hasChanged 2 0 0 53 [(0, .ref x0), (1, .int x1), (2, .int x2), (3, .int x3), (4, .int x4)] [] σ (.inl (some (.int r.1)), r.2))  {x0 : Nat} {x1 : Int32} {x2 : Int32} {x4 : Int32} {s0 : Int32} {σ : hb_M} {r : (Int32 × hb_M)} (h : f_X9_hasChanged_b99 k53 x0 x1 x2 x4 s0 σ = some r) : hb_T G l z mX9_hasChanged 2 0 0 99 [(0, .ref x0), (1, .int x1), (2, .int x2), (4, .int x4)] [.int s0] σ (.inl (some (.int r.1)), r.2) := by
  unfold f_X9_hasChanged_b99 at h
  refine hs_istore_n (lv' := [(3, .int s0), (0, .ref x0), (1, .int x1), (2, .int x2), (4, .int x4)]) dX9_hasChanged_99 (by decide) rfl ?_
  refine hs_iinc2 (k := (1 : Int32)) (lv' := [(4, .int (x4 + (1 : Int32))), (3, .int s0), (0, .ref x0), (1, .int x1), (2, .int x2)]) dX9_hasChanged_100 (by decide) 4 rfl (by decide) rfl ?_
  refine hs_goto (tgt := 53) dX9_hasChanged_103 (by decide) ?_
  refine hs_sub (lv' := [(0, .ref x0), (1, .int x1), (2, .int x2), (3, .int s0), (4, .int (x4 + (1 : Int32)))]) [2, 3, 4, 1, 0] rfl ?_
  exact hk53 _ _ _ _ _ _ _ h
set_option maxHeartbeats 4000000 in
set_option maxRecDepth 20000 in
theorem c_X9_hasChanged_b53 {G : hb_G} {l : Launch} {z : Bool} : ∀ (n : Nat) (x0 : Nat) (x1 : Int32) (x2 : Int32) (x3 : Int32) (x4 : Int32) (σ : hb_M) (r : (Int32 × hb_M)), f_X9_hasChanged_b53 n x0 x1 x2 x3 x4 σ = some r → hb_T G l z mX9_hasChanged 2 0 0 53 [(0, .ref x0), (1, .int x1), (2, .int x2), (3, .int x3), (4, .int x4)] [] σ (.inl (some (.int r.1)), r.2) := by
  intro n
  induction n with
  | zero =>
    intro x0 x1 x2 x3 x4 σ r h
    cases h
  | succ n ih =>
    intro x0 x1 x2 x3 x4 σ r h
    rw [f_X9_hasChanged_b53] at h
    refine hs_iload dX9_hasChanged_53 4 rfl ?_
    refine hs_aload_n dX9_hasChanged_55 0 rfl ?_
    obtain ⟨r1, h1, h⟩ := hb_bind h
    refine hs_getR dX9_hasChanged_56 lkX9_7 rfl h1 ?_
    refine hs_iload_n dX9_hasChanged_59 1 rfl ?_
    obtain ⟨r2, h2, h⟩ := hb_bind h
    refine hs_callSi (μ' := mX9_at) (mc := 0) (ms := 0) (rc := 0) (rs := 0) (As := [.int x1]) (rest := [.ref r1, .int x4]) dX9_hasChanged_60 lmX9_103 okX9_at rfl (by decide) rfl (Nat.le_of_ble_eq_true rfl) (c_X9_at h2) ?_
    refine hs_iconst (v := (2 : Int32)) dX9_hasChanged_63 (by decide) ?_
    refine hs_iadd dX9_hasChanged_64 ?_
    obtain ⟨r3, h3, h⟩ := hb_bind h
    refine hs_iald dX9_hasChanged_65 h3 ?_
    refine hs_icmp_ge (tgt := 106) dX9_hasChanged_66 (by decide) (fun hc4 => ?_) (fun hc4 => ?_)
    · rw [if_pos hc4] at h
      refine hs_iload_n dX9_hasChanged_106 3 rfl ?_
      obtain ⟨rfl, hn⟩ := hb_zr_at h
      exact hs_ireturn dX9_hasChanged_107 rfl hn (fun _ => rfl)
    · rw [if_neg hc4] at h
      refine hs_iload_n dX9_hasChanged_69 3 rfl ?_
      refine hs_if_ne (tgt := 106) dX9_hasChanged_70 (by decide) (fun hc5 => ?_) (fun hc5 => ?_)
      · rw [if_neg hc5] at h
        refine hs_iload_n dX9_hasChanged_106 3 rfl ?_
        obtain ⟨rfl, hn⟩ := hb_zr_at h
        exact hs_ireturn dX9_hasChanged_107 rfl hn (fun _ => rfl)
      · rw [if_pos hc5] at h
        refine hs_aload_n dX9_hasChanged_73 0 rfl ?_
        refine hs_iload_n dX9_hasChanged_74 1 rfl ?_
        refine hs_iload dX9_hasChanged_75 4 rfl ?_
        obtain ⟨r6, h6, h⟩ := hb_bind h
        obtain ⟨h6, nf6, hb6⟩ := hb_on_at h6
        refine hs_callVi (μ' := mX9_serialIn) (mc := 0) (ms := 0) (rc := 0) (rs := 0) (As := [.int x1, .int x4]) (rest := []) (ci := 9) dX9_hasChanged_77 lmX9_322 okX9_serialIn rfl (by decide) rfl (Nat.le_of_ble_eq_true rfl) rfl hb6 (c_X9_serialIn h6) ?_
        refine hs_aload_n dX9_hasChanged_80 0 rfl ?_
        obtain ⟨r7, h7, h⟩ := hb_bind h
        refine hs_getR dX9_hasChanged_81 lkX9_22 rfl h7 ?_
        refine hs_iload_n dX9_hasChanged_84 2 rfl ?_
        refine hs_iconst (v := (5 : Int32)) dX9_hasChanged_85 (by decide) ?_
        refine hs_iadd dX9_hasChanged_86 ?_
        refine hs_iload dX9_hasChanged_87 4 rfl ?_
        refine hs_iadd dX9_hasChanged_89 ?_
        obtain ⟨r8, h8, h⟩ := hb_bind h
        refine hs_iald dX9_hasChanged_90 h8 ?_
        refine hs_icmp_eq (tgt := 98) dX9_hasChanged_91 (by decide) (fun hc9 => ?_) (fun hc9 => ?_)
        · rw [if_pos hc9] at h
          refine hs_iconst (v := (0 : Int32)) dX9_hasChanged_98 (by decide) ?_
          refine hs_sub (lv' := [(0, .ref x0), (1, .int x1), (2, .int x2), (4, .int x4)]) [0, 1, 2, 4] rfl ?_
          exact c_X9_hasChanged_b99 (f_X9_hasChanged_b53 n) ih h
        · rw [if_neg hc9] at h
          refine hs_iconst (v := (1 : Int32)) dX9_hasChanged_94 (by decide) ?_
          refine hs_goto (tgt := 99) dX9_hasChanged_95 (by decide) ?_
          refine hs_sub (lv' := [(0, .ref x0), (1, .int x1), (2, .int x2), (4, .int x4)]) [0, 1, 2, 4] rfl ?_
          exact c_X9_hasChanged_b99 (f_X9_hasChanged_b53 n) ih h
set_option maxHeartbeats 4000000 in
set_option maxRecDepth 20000 in
theorem c_X9_hasChanged_b49 {G : hb_G} {l : Launch} {z : Bool}  {x0 : Nat} {x1 : Int32} {x2 : Int32} {s0 : Int32} {σ : hb_M} {r : (Int32 × hb_M)} (h : f_X9_hasChanged_b49 x0 x1 x2 s0 σ = some r) : hb_T G l z mX9_hasChanged 2 0 0 49 [(0, .ref x0), (1, .int x1), (2, .int x2)] [.int s0] σ (.inl (some (.int r.1)), r.2) := by
  unfold f_X9_hasChanged_b49 at h
  refine hs_istore_n (lv' := [(3, .int s0), (0, .ref x0), (1, .int x1), (2, .int x2)]) dX9_hasChanged_49 (by decide) rfl ?_
  refine hs_iconst (v := (0 : Int32)) dX9_hasChanged_50 (by decide) ?_
  refine hs_istore (lv' := [(4, .int (0 : Int32)), (3, .int s0), (0, .ref x0), (1, .int x1), (2, .int x2)]) dX9_hasChanged_51 (by decide) rfl ?_
  refine hs_sub (lv' := [(0, .ref x0), (1, .int x1), (2, .int x2), (3, .int s0), (4, .int (0 : Int32))]) [2, 3, 4, 1, 0] rfl ?_
  exact c_X9_hasChanged_b53 hb_FU _ _ _ _ _ _ _ h
set_option maxHeartbeats 4000000 in
set_option maxRecDepth 20000 in
theorem c_X9_hasChanged_b44 {G : hb_G} {l : Launch} {z : Bool}  {x0 : Nat} {x1 : Int32} {x2 : Int32} {σ : hb_M} {r : (Int32 × hb_M)} (h : f_X9_hasChanged_b44 x0 x1 x2 σ = some r) : hb_T G l z mX9_hasChanged 2 0 0 44 [(0, .ref x0), (1, .int x1), (2, .int x2)] [] σ (.inl (some (.int r.1)), r.2) := by
  unfold f_X9_hasChanged_b44 at h
  refine hs_iconst (v := (1 : Int32)) dX9_hasChanged_44 (by decide) ?_
  refine hs_goto (tgt := 49) dX9_hasChanged_45 (by decide) ?_
  refine hs_sub (lv' := [(0, .ref x0), (1, .int x1), (2, .int x2)]) [0, 1, 2] rfl ?_
  exact c_X9_hasChanged_b49 h
set_option maxHeartbeats 4000000 in
set_option maxRecDepth 20000 in
theorem c_X9_hasChanged {G : hb_G} {l : Launch} {z : Bool} {x0 : Nat} {x1 : Int32} {x2 : Int32} {σ : hb_M} {r : (Int32 × hb_M)} (h : f_X9_hasChanged x0 x1 x2 σ = some r) : hb_Call G l z 2 0 0 mX9_hasChanged [.ref x0, .int x1, .int x2] σ (.inl (some (.int r.1)), r.2) := by
  refine hb_met (by decide) (Nat.le_of_ble_eq_true rfl) ?_
  unfold f_X9_hasChanged at h
  refine hs_aload_n dX9_hasChanged_0 0 rfl ?_
  obtain ⟨r1, h1, h⟩ := hb_bind h
  refine hs_getR dX9_hasChanged_1 lkX9_7 rfl h1 ?_
  refine hs_iload_n dX9_hasChanged_4 1 rfl ?_
  obtain ⟨r2, h2, h⟩ := hb_bind h
  refine hs_callSi (μ' := mX9_at) (mc := 0) (ms := 0) (rc := 0) (rs := 0) (As := [.int x1]) (rest := [.ref r1]) dX9_hasChanged_5 lmX9_103 okX9_at rfl (by decide) rfl (Nat.le_of_ble_eq_true rfl) (c_X9_at h2) ?_
  refine hs_iconst (v := (4 : Int32)) dX9_hasChanged_8 (by decide) ?_
  refine hs_iadd dX9_hasChanged_9 ?_
  obtain ⟨r3, h3, h⟩ := hb_bind h
  refine hs_iald dX9_hasChanged_10 h3 ?_
  refine hs_aload_n dX9_hasChanged_11 0 rfl ?_
  obtain ⟨r4, h4, h⟩ := hb_bind h
  refine hs_getR dX9_hasChanged_12 lkX9_22 rfl h4 ?_
  refine hs_iload_n dX9_hasChanged_15 2 rfl ?_
  refine hs_iconst (v := (4 : Int32)) dX9_hasChanged_16 (by decide) ?_
  refine hs_iadd dX9_hasChanged_17 ?_
  obtain ⟨r5, h5, h⟩ := hb_bind h
  refine hs_iald dX9_hasChanged_18 h5 ?_
  refine hs_icmp_ne (tgt := 44) dX9_hasChanged_19 (by decide) (fun hc6 => ?_) (fun hc6 => ?_)
  · rw [if_neg hc6] at h
    refine hs_sub (lv' := [(0, .ref x0), (1, .int x1), (2, .int x2)]) [0, 1, 2] rfl ?_
    exact c_X9_hasChanged_b44 h
  · rw [if_pos hc6] at h
    refine hs_aload_n dX9_hasChanged_22 0 rfl ?_
    obtain ⟨r7, h7, h⟩ := hb_bind h
    refine hs_getR dX9_hasChanged_23 lkX9_7 rfl h7 ?_
    refine hs_iload_n dX9_hasChanged_26 1 rfl ?_
    obtain ⟨r8, h8, h⟩ := hb_bind h
    refine hs_callSi (μ' := mX9_at) (mc := 0) (ms := 0) (rc := 0) (rs := 0) (As := [.int x1]) (rest := [.ref r7]) dX9_hasChanged_27 lmX9_103 okX9_at rfl (by decide) rfl (Nat.le_of_ble_eq_true rfl) (c_X9_at h8) ?_
    refine hs_iconst (v := (2 : Int32)) dX9_hasChanged_30 (by decide) ?_
    refine hs_iadd dX9_hasChanged_31 ?_
    obtain ⟨r9, h9, h⟩ := hb_bind h
    refine hs_iald dX9_hasChanged_32 h9 ?_
    refine hs_aload_n dX9_hasChanged_33 0 rfl ?_
    obtain ⟨r10, h10, h⟩ := hb_bind h
    refine hs_getR dX9_hasChanged_34 lkX9_22 rfl h10 ?_
    refine hs_iload_n dX9_hasChanged_37 2 rfl ?_
    refine hs_iconst (v := (2 : Int32)) dX9_hasChanged_38 (by decide) ?_
    refine hs_iadd dX9_hasChanged_39 ?_
    obtain ⟨r11, h11, h⟩ := hb_bind h
    refine hs_iald dX9_hasChanged_40 h11 ?_
    refine hs_icmp_eq (tgt := 48) dX9_hasChanged_41 (by decide) (fun hc12 => ?_) (fun hc12 => ?_)
    · rw [if_pos hc12] at h
      refine hs_iconst (v := (0 : Int32)) dX9_hasChanged_48 (by decide) ?_
      refine hs_sub (lv' := [(0, .ref x0), (1, .int x1), (2, .int x2)]) [0, 1, 2] rfl ?_
      exact c_X9_hasChanged_b49 h
    · rw [if_neg hc12] at h
      refine hs_sub (lv' := [(0, .ref x0), (1, .int x1), (2, .int x2)]) [0, 1, 2] rfl ?_
      exact c_X9_hasChanged_b44 h
def mX9_compare : hb_Y := (yX9_compare, cX9_compare, 10, (some .int), [], false)
set_option maxHeartbeats 4000000 in
set_option maxRecDepth 20000 in
theorem c_X9_compare_b196 {G : hb_G} {l : Launch} {z : Bool}  (k64 : Nat → Int32 → Int32 → Int32 → Int32 → Int32 → Int32 → Int32 → Int32 → hb_M → Option (Int32 × hb_M)) (hk64 : ∀ (x0 : Nat) (x1 : Int32) (x2 : Int32) (x3 : Int32) (x4 : Int32) (x5 : Int32) (x6 : Int32) (x7 : Int32) (x8 : Int32) (σ : hb_M) (r : (Int32 × hb_M)), k64 x0 x1 x2 x3 x4 x5 x6 x7 x8 σ = some r → hb_T G l z mX9_compare 3 0 0 64 [(0, .ref x0), (1, .int x1), (2, .int x2), (3, .int x3), (4, .int x4), (5, .int x5), (6, .int x6), (7, .int x7), (8, .int x8)] [] σ (.inl (some (.int r.1)), r.2))  {x0 : Nat} {x1 : Int32} {x2 : Int32} {x3 : Int32} {x4 : Int32} {x5 : Int32} {x6 : Int32} {x7 : Int32} {x8 : Int32} {σ : hb_M} {r : (Int32 × hb_M)} (h : f_X9_compare_b196 k64 x0 x1 x2 x3 x4 x5 x6 x7 x8 σ = some r) : hb_T G l z mX9_compare 3 0 0 196 [(0, .ref x0), (1, .int x1), (2, .int x2), (3, .int x3), (4, .int x4), (5, .int x5), (6, .int x6), (7, .int x7), (8, .int x8)] [] σ (.inl (some (.int r.1)), r.2) := by
  unfold f_X9_compare_b196 at h
  refine hs_iinc2 (k := (1 : Int32)) (lv' := [(8, .int (x8 + (1 : Int32))), (0, .ref x0), (1, .int x1), (2, .int x2), (3, .int x3), (4, .int x4), (5, .int x5), (6, .int x6), (7, .int x7)]) dX9_compare_196 (by decide) 8 rfl (by decide) rfl ?_
  refine hs_goto (tgt := 64) dX9_compare_199 (by decide) ?_
  refine hs_sub (lv' := [(0, .ref x0), (1, .int x1), (2, .int x2), (3, .int x3), (4, .int x4), (5, .int x5), (6, .int x6), (7, .int x7), (8, .int (x8 + (1 : Int32)))]) [1, 2, 3, 4, 5, 6, 7, 8, 0] rfl ?_
  exact hk64 _ _ _ _ _ _ _ _ _ _ _ h
set_option maxHeartbeats 4000000 in
set_option maxRecDepth 20000 in
theorem c_X9_compare_b182 {G : hb_G} {l : Launch} {z : Bool}  (k64 : Nat → Int32 → Int32 → Int32 → Int32 → Int32 → Int32 → Int32 → Int32 → hb_M → Option (Int32 × hb_M)) (hk64 : ∀ (x0 : Nat) (x1 : Int32) (x2 : Int32) (x3 : Int32) (x4 : Int32) (x5 : Int32) (x6 : Int32) (x7 : Int32) (x8 : Int32) (σ : hb_M) (r : (Int32 × hb_M)), k64 x0 x1 x2 x3 x4 x5 x6 x7 x8 σ = some r → hb_T G l z mX9_compare 3 0 0 64 [(0, .ref x0), (1, .int x1), (2, .int x2), (3, .int x3), (4, .int x4), (5, .int x5), (6, .int x6), (7, .int x7), (8, .int x8)] [] σ (.inl (some (.int r.1)), r.2))  {x0 : Nat} {x1 : Int32} {x2 : Int32} {x3 : Int32} {x4 : Int32} {x6 : Int32} {x7 : Int32} {x8 : Int32} {s0 : Int32} {s1 : Int32} {σ : hb_M} {r : (Int32 × hb_M)} (h : f_X9_compare_b182 k64 x0 x1 x2 x3 x4 x6 x7 x8 s0 s1 σ = some r) : hb_T G l z mX9_compare 3 0 0 182 [(0, .ref x0), (1, .int x1), (2, .int x2), (3, .int x3), (4, .int x4), (6, .int x6), (7, .int x7), (8, .int x8)] [.int s1, .int s0] σ (.inl (some (.int r.1)), r.2) := by
  unfold f_X9_compare_b182 at h
  refine hs_iadd dX9_compare_182 ?_
  refine hs_istore (lv' := [(5, .int (s0 + s1)), (0, .ref x0), (1, .int x1), (2, .int x2), (3, .int x3), (4, .int x4), (6, .int x6), (7, .int x7), (8, .int x8)]) dX9_compare_183 (by decide) rfl ?_
  refine hs_iload dX9_compare_185 6 rfl ?_
  refine hs_aload_n dX9_compare_187 1 rfl ?_
  refine hs_iload dX9_compare_188 8 rfl ?_
  obtain ⟨r1, h1, h⟩ := hb_bind h
  obtain ⟨h1, nf1, hb1⟩ := hb_on_at h1
  refine hs_callVi (μ' := mX9_sizeOf) (mc := 0) (ms := 0) (rc := 0) (rs := 0) (As := [.int x8]) (rest := [.int x6]) (ci := 9) dX9_compare_190 lmX9_109 okX9_sizeOf rfl (by decide) rfl (Nat.le_of_ble_eq_true rfl) rfl hb1 (c_X9_sizeOf h1) ?_
  refine hs_iadd dX9_compare_193 ?_
  refine hs_istore (lv' := [(6, .int (x6 + r1.1)), (5, .int (s0 + s1)), (0, .ref x0), (1, .int x1), (2, .int x2), (3, .int x3), (4, .int x4), (7, .int x7), (8, .int x8)]) dX9_compare_194 (by decide) rfl ?_
  refine hs_sub (lv' := [(0, .ref x0), (1, .int x1), (2, .int x2), (3, .int x3), (4, .int x4), (5, .int (s0 + s1)), (6, .int (x6 + r1.1)), (7, .int x7), (8, .int x8)]) [2, 3, 4, 5, 6, 1, 0, 7, 8] rfl ?_
  exact c_X9_compare_b196 k64 hk64 h
set_option maxHeartbeats 4000000 in
set_option maxRecDepth 20000 in
theorem c_X9_compare_b181 {G : hb_G} {l : Launch} {z : Bool}  (k64 : Nat → Int32 → Int32 → Int32 → Int32 → Int32 → Int32 → Int32 → Int32 → hb_M → Option (Int32 × hb_M)) (hk64 : ∀ (x0 : Nat) (x1 : Int32) (x2 : Int32) (x3 : Int32) (x4 : Int32) (x5 : Int32) (x6 : Int32) (x7 : Int32) (x8 : Int32) (σ : hb_M) (r : (Int32 × hb_M)), k64 x0 x1 x2 x3 x4 x5 x6 x7 x8 σ = some r → hb_T G l z mX9_compare 3 0 0 64 [(0, .ref x0), (1, .int x1), (2, .int x2), (3, .int x3), (4, .int x4), (5, .int x5), (6, .int x6), (7, .int x7), (8, .int x8)] [] σ (.inl (some (.int r.1)), r.2))  {x0 : Nat} {x1 : Int32} {x2 : Int32} {x3 : Int32} {x4 : Int32} {x6 : Int32} {x7 : Int32} {x8 : Int32} {s0 : Int32} {σ : hb_M} {r : (Int32 × hb_M)} (h : f_X9_compare_b181 k64 x0 x1 x2 x3 x4 x6 x7 x8 s0 σ = some r) : hb_T G l z mX9_compare 3 0 0 181 [(0, .ref x0), (1, .int x1), (2, .int x2), (3, .int x3), (4, .int x4), (6, .int x6), (7, .int x7), (8, .int x8)] [.int s0] σ (.inl (some (.int r.1)), r.2) := by
  unfold f_X9_compare_b181 at h
  refine hs_iconst (v := (0 : Int32)) dX9_compare_181 (by decide) ?_
  refine hs_sub (lv' := [(0, .ref x0), (1, .int x1), (2, .int x2), (3, .int x3), (4, .int x4), (6, .int x6), (7, .int x7), (8, .int x8)]) [0, 1, 2, 3, 4, 5, 6, 7] rfl ?_
  exact c_X9_compare_b182 k64 hk64 h
set_option maxHeartbeats 4000000 in
set_option maxRecDepth 20000 in
theorem c_X9_compare_b155 {G : hb_G} {l : Launch} {z : Bool}  (k64 : Nat → Int32 → Int32 → Int32 → Int32 → Int32 → Int32 → Int32 → Int32 → hb_M → Option (Int32 × hb_M)) (hk64 : ∀ (x0 : Nat) (x1 : Int32) (x2 : Int32) (x3 : Int32) (x4 : Int32) (x5 : Int32) (x6 : Int32) (x7 : Int32) (x8 : Int32) (σ : hb_M) (r : (Int32 × hb_M)), k64 x0 x1 x2 x3 x4 x5 x6 x7 x8 σ = some r → hb_T G l z mX9_compare 3 0 0 64 [(0, .ref x0), (1, .int x1), (2, .int x2), (3, .int x3), (4, .int x4), (5, .int x5), (6, .int x6), (7, .int x7), (8, .int x8)] [] σ (.inl (some (.int r.1)), r.2))  {x0 : Nat} {x1 : Int32} {x2 : Int32} {x3 : Int32} {x5 : Int32} {x6 : Int32} {x7 : Int32} {x8 : Int32} {x9 : Int32} {s0 : Int32} {s1 : Int32} {σ : hb_M} {r : (Int32 × hb_M)} (h : f_X9_compare_b155 k64 x0 x1 x2 x3 x5 x6 x7 x8 x9 s0 s1 σ = some r) : hb_T G l z mX9_compare 3 0 0 155 [(0, .ref x0), (1, .int x1), (2, .int x2), (3, .int x3), (5, .int x5), (6, .int x6), (7, .int x7), (8, .int x8), (9, .int x9)] [.int s1, .int s0] σ (.inl (some (.int r.1)), r.2) := by
  unfold f_X9_compare_b155 at h
  refine hs_iadd dX9_compare_155 ?_
  refine hs_istore (lv' := [(4, .int (s0 + s1)), (0, .ref x0), (1, .int x1), (2, .int x2), (3, .int x3), (5, .int x5), (6, .int x6), (7, .int x7), (8, .int x8), (9, .int x9)]) dX9_compare_156 (by decide) rfl ?_
  refine hs_iload dX9_compare_158 5 rfl ?_
  refine hs_iload dX9_compare_160 9 rfl ?_
  refine hs_iconst (v := (-1 : Int32)) dX9_compare_162 (by decide) ?_
  refine hs_icmp_eq (tgt := 181) dX9_compare_163 (by decide) (fun hc1 => ?_) (fun hc1 => ?_)
  · rw [if_pos hc1] at h
    refine hs_sub (lv' := [(0, .ref x0), (1, .int x1), (2, .int x2), (3, .int x3), (4, .int (s0 + s1)), (6, .int x6), (7, .int x7), (8, .int x8)]) [1, 2, 3, 4, 0, 6, 7, 8] rfl ?_
    exact c_X9_compare_b181 k64 hk64 h
  · rw [if_neg hc1] at h
    refine hs_aload_n dX9_compare_166 1 rfl ?_
    refine hs_iload dX9_compare_167 8 rfl ?_
    refine hs_iload dX9_compare_169 9 rfl ?_
    obtain ⟨r2, h2, h⟩ := hb_bind h
    obtain ⟨h2, nf2, hb2⟩ := hb_on_at h2
    refine hs_callVi (μ' := mX9_hasChanged) (mc := 0) (ms := 0) (rc := 0) (rs := 0) (As := [.int x8, .int x9]) (rest := [.int x5]) (ci := 9) dX9_compare_171 lmX9_328 okX9_hasChanged rfl (by decide) rfl (Nat.le_of_ble_eq_true rfl) rfl hb2 (c_X9_hasChanged h2) ?_
    refine hs_if_eq (tgt := 181) dX9_compare_174 (by decide) (fun hc3 => ?_) (fun hc3 => ?_)
    · rw [if_pos hc3] at h
      refine hs_sub (lv' := [(0, .ref x0), (1, .int x1), (2, .int x2), (3, .int x3), (4, .int (s0 + s1)), (6, .int x6), (7, .int x7), (8, .int x8)]) [1, 2, 3, 4, 0, 6, 7, 8] rfl ?_
      exact c_X9_compare_b181 k64 hk64 h
    · rw [if_neg hc3] at h
      refine hs_iconst (v := (1 : Int32)) dX9_compare_177 (by decide) ?_
      refine hs_goto (tgt := 182) dX9_compare_178 (by decide) ?_
      refine hs_sub (lv' := [(0, .ref x0), (1, .int x1), (2, .int x2), (3, .int x3), (4, .int (s0 + s1)), (6, .int x6), (7, .int x7), (8, .int x8)]) [1, 2, 3, 4, 0, 6, 7, 8] rfl ?_
      exact c_X9_compare_b182 k64 hk64 h
set_option maxHeartbeats 4000000 in
set_option maxRecDepth 20000 in
theorem c_X9_compare_b140 {G : hb_G} {l : Launch} {z : Bool}  (k64 : Nat → Int32 → Int32 → Int32 → Int32 → Int32 → Int32 → Int32 → Int32 → hb_M → Option (Int32 × hb_M)) (hk64 : ∀ (x0 : Nat) (x1 : Int32) (x2 : Int32) (x3 : Int32) (x4 : Int32) (x5 : Int32) (x6 : Int32) (x7 : Int32) (x8 : Int32) (σ : hb_M) (r : (Int32 × hb_M)), k64 x0 x1 x2 x3 x4 x5 x6 x7 x8 σ = some r → hb_T G l z mX9_compare 3 0 0 64 [(0, .ref x0), (1, .int x1), (2, .int x2), (3, .int x3), (4, .int x4), (5, .int x5), (6, .int x6), (7, .int x7), (8, .int x8)] [] σ (.inl (some (.int r.1)), r.2))  {x0 : Nat} {x1 : Int32} {x2 : Int32} {x4 : Int32} {x5 : Int32} {x6 : Int32} {x7 : Int32} {x8 : Int32} {x9 : Int32} {s0 : Int32} {s1 : Int32} {σ : hb_M} {r : (Int32 × hb_M)} (h : f_X9_compare_b140 k64 x0 x1 x2 x4 x5 x6 x7 x8 x9 s0 s1 σ = some r) : hb_T G l z mX9_compare 3 0 0 140 [(0, .ref x0), (1, .int x1), (2, .int x2), (4, .int x4), (5, .int x5), (6, .int x6), (7, .int x7), (8, .int x8), (9, .int x9)] [.int s1, .int s0] σ (.inl (some (.int r.1)), r.2) := by
  unfold f_X9_compare_b140 at h
  refine hs_iadd dX9_compare_140 ?_
  refine hs_istore_n (lv' := [(3, .int (s0 + s1)), (0, .ref x0), (1, .int x1), (2, .int x2), (4, .int x4), (5, .int x5), (6, .int x6), (7, .int x7), (8, .int x8), (9, .int x9)]) dX9_compare_141 (by decide) rfl ?_
  refine hs_iload dX9_compare_142 4 rfl ?_
  refine hs_iload dX9_compare_144 9 rfl ?_
  refine hs_iconst (v := (-1 : Int32)) dX9_compare_146 (by decide) ?_
  refine hs_icmp_ne (tgt := 154) dX9_compare_147 (by decide) (fun hc1 => ?_) (fun hc1 => ?_)
  · rw [if_neg hc1] at h
    refine hs_iconst (v := (1 : Int32)) dX9_compare_154 (by decide) ?_
    refine hs_sub (lv' := [(0, .ref x0), (1, .int x1), (2, .int x2), (3, .int (s0 + s1)), (5, .int x5), (6, .int x6), (7, .int x7), (8, .int x8), (9, .int x9)]) [1, 2, 3, 0, 5, 6, 7, 8, 9] rfl ?_
    exact c_X9_compare_b155 k64 hk64 h
  · rw [if_pos hc1] at h
    refine hs_iconst (v := (0 : Int32)) dX9_compare_150 (by decide) ?_
    refine hs_goto (tgt := 155) dX9_compare_151 (by decide) ?_
    refine hs_sub (lv' := [(0, .ref x0), (1, .int x1), (2, .int x2), (3, .int (s0 + s1)), (5, .int x5), (6, .int x6), (7, .int x7), (8, .int x8), (9, .int x9)]) [1, 2, 3, 0, 5, 6, 7, 8, 9] rfl ?_
    exact c_X9_compare_b155 k64 hk64 h
set_option maxHeartbeats 4000000 in
set_option maxRecDepth 20000 in
theorem c_X9_compare_b97 {G : hb_G} {l : Launch} {z : Bool}  (k64 : Nat → Int32 → Int32 → Int32 → Int32 → Int32 → Int32 → Int32 → Int32 → hb_M → Option (Int32 × hb_M)) (hk64 : ∀ (x0 : Nat) (x1 : Int32) (x2 : Int32) (x3 : Int32) (x4 : Int32) (x5 : Int32) (x6 : Int32) (x7 : Int32) (x8 : Int32) (σ : hb_M) (r : (Int32 × hb_M)), k64 x0 x1 x2 x3 x4 x5 x6 x7 x8 σ = some r → hb_T G l z mX9_compare 3 0 0 64 [(0, .ref x0), (1, .int x1), (2, .int x2), (3, .int x3), (4, .int x4), (5, .int x5), (6, .int x6), (7, .int x7), (8, .int x8)] [] σ (.inl (some (.int r.1)), r.2))  {x0 : Nat} {x1 : Int32} {x2 : Int32} {x3 : Int32} {x4 : Int32} {x5 : Int32} {x6 : Int32} {x8 : Int32} {s0 : Int32} {s1 : Int32} {σ : hb_M} {r : (Int32 × hb_M)} (h : f_X9_compare_b97 k64 x0 x1 x2 x3 x4 x5 x6 x8 s0 s1 σ = some r) : hb_T G l z mX9_compare 3 0 0 97 [(0, .ref x0), (1, .int x1), (2, .int x2), (3, .int x3), (4, .int x4), (5, .int x5), (6, .int x6), (8, .int x8)] [.int s1, .int s0] σ (.inl (some (.int r.1)), r.2) := by
  unfold f_X9_compare_b97 at h
  refine hs_iadd dX9_compare_97 ?_
  refine hs_istore (lv' := [(7, .int (s0 + s1)), (0, .ref x0), (1, .int x1), (2, .int x2), (3, .int x3), (4, .int x4), (5, .int x5), (6, .int x6), (8, .int x8)]) dX9_compare_98 (by decide) rfl ?_
  refine hs_aload_n dX9_compare_100 1 rfl ?_
  refine hs_iload dX9_compare_101 8 rfl ?_
  obtain ⟨r1, h1, h⟩ := hb_bind h
  obtain ⟨h1, nf1, hb1⟩ := hb_on_at h1
  refine hs_callVi (μ' := mX9_isObject) (mc := 0) (ms := 0) (rc := 0) (rs := 0) (As := [.int x8]) (rest := []) (ci := 9) dX9_compare_103 lmX9_106 okX9_isObject rfl (by decide) rfl (Nat.le_of_ble_eq_true rfl) rfl hb1 (c_X9_isObject h1) ?_
  refine hs_if_eq (tgt := 196) dX9_compare_106 (by decide) (fun hc2 => ?_) (fun hc2 => ?_)
  · rw [if_pos hc2] at h
    refine hs_sub (lv' := [(0, .ref x0), (1, .int x1), (2, .int x2), (3, .int x3), (4, .int x4), (5, .int x5), (6, .int x6), (7, .int (s0 + s1)), (8, .int x8)]) [1, 2, 3, 4, 5, 6, 7, 0, 8] rfl ?_
    exact c_X9_compare_b196 k64 hk64 h
  · rw [if_neg hc2] at h
    refine hs_aload_n dX9_compare_109 1 rfl ?_
    refine hs_iload_n dX9_compare_110 2 rfl ?_
    refine hs_aload_n dX9_compare_111 1 rfl ?_
    obtain ⟨r3, h3, h⟩ := hb_bind h
    refine hs_getR dX9_compare_112 lkX9_7 rfl h3 ?_
    refine hs_iload dX9_compare_115 8 rfl ?_
    obtain ⟨r4, h4, h⟩ := hb_bind h
    refine hs_callSi (μ' := mX9_at) (mc := 0) (ms := 0) (rc := 0) (rs := 0) (As := [.int x8]) (rest := [.ref r3, .int x1, .ref x0]) dX9_compare_117 lmX9_103 okX9_at rfl (by decide) rfl (Nat.le_of_ble_eq_true rfl) (c_X9_at h4) ?_
    refine hs_iconst (v := (0 : Int32)) dX9_compare_120 (by decide) ?_
    refine hs_iadd dX9_compare_121 ?_
    obtain ⟨r5, h5, h⟩ := hb_bind h
    refine hs_iald dX9_compare_122 h5 ?_
    obtain ⟨r6, h6, h⟩ := hb_bind h
    obtain ⟨h6, nf6, hb6⟩ := hb_on_at h6
    refine hs_callVi (μ' := mX9_inPicture) (mc := 0) (ms := 0) (rc := 0) (rs := 0) (As := [.int x1, .int r5]) (rest := []) (ci := 9) dX9_compare_123 lmX9_325 okX9_inPicture rfl (by decide) rfl (Nat.le_of_ble_eq_true rfl) rfl hb6 (c_X9_inPicture h6) ?_
    refine hs_istore (lv' := [(9, .int r6.1), (7, .int (s0 + s1)), (0, .ref x0), (1, .int x1), (2, .int x2), (3, .int x3), (4, .int x4), (5, .int x5), (6, .int x6), (8, .int x8)]) dX9_compare_126 (by decide) rfl ?_
    refine hs_iload_n dX9_compare_128 5 rfl ?_
    refine hs_iload dX9_compare_129 0 rfl ?_
    refine hs_iconst (v := (-1 : Int32)) dX9_compare_131 (by decide) ?_
    refine hs_icmp_ne (tgt := 139) dX9_compare_132 (by decide) (fun hc7 => ?_) (fun hc7 => ?_)
    · rw [if_neg hc7] at h
      refine hs_iconst (v := (0 : Int32)) dX9_compare_139 (by decide) ?_
      refine hs_sub (lv' := [(0, .ref x0), (1, .int x1), (2, .int x2), (4, .int x4), (5, .int x5), (6, .int x6), (7, .int (s0 + s1)), (8, .int x8), (9, .int r6.1)]) [2, 3, 4, 6, 7, 8, 1, 9, 0] rfl ?_
      exact c_X9_compare_b140 k64 hk64 h
    · rw [if_pos hc7] at h
      refine hs_iconst (v := (1 : Int32)) dX9_compare_135 (by decide) ?_
      refine hs_goto (tgt := 140) dX9_compare_136 (by decide) ?_
      refine hs_sub (lv' := [(0, .ref x0), (1, .int x1), (2, .int x2), (4, .int x4), (5, .int x5), (6, .int x6), (7, .int (s0 + s1)), (8, .int x8), (9, .int r6.1)]) [2, 3, 4, 6, 7, 8, 1, 9, 0] rfl ?_
      exact c_X9_compare_b140 k64 hk64 h
set_option maxHeartbeats 4000000 in
set_option maxRecDepth 20000 in
theorem c_X9_compare_b64 {G : hb_G} {l : Launch} {z : Bool} : ∀ (n : Nat) (x0 : Nat) (x1 : Int32) (x2 : Int32) (x3 : Int32) (x4 : Int32) (x5 : Int32) (x6 : Int32) (x7 : Int32) (x8 : Int32) (σ : hb_M) (r : (Int32 × hb_M)), f_X9_compare_b64 n x0 x1 x2 x3 x4 x5 x6 x7 x8 σ = some r → hb_T G l z mX9_compare 3 0 0 64 [(0, .ref x0), (1, .int x1), (2, .int x2), (3, .int x3), (4, .int x4), (5, .int x5), (6, .int x6), (7, .int x7), (8, .int x8)] [] σ (.inl (some (.int r.1)), r.2) := by
  intro n
  induction n with
  | zero =>
    intro x0 x1 x2 x3 x4 x5 x6 x7 x8 σ r h
    cases h
  | succ n ih =>
    intro x0 x1 x2 x3 x4 x5 x6 x7 x8 σ r h
    rw [f_X9_compare_b64] at h
    refine hs_iload dX9_compare_64 8 rfl ?_
    refine hs_bipush (v := (40 : Int32)) dX9_compare_66 (by decide) ?_
    refine hs_icmp_ge (tgt := 202) dX9_compare_68 (by decide) (fun hc1 => ?_) (fun hc1 => ?_)
    · rw [if_pos hc1] at h
      refine hs_iload_n dX9_compare_202 2 rfl ?_
      refine hs_if_ne (tgt := 210) dX9_compare_203 (by decide) (fun hc2 => ?_) (fun hc2 => ?_)
      · rw [if_neg hc2] at h
        refine hs_iload_n dX9_compare_210 2 rfl ?_
        refine hs_iconst (v := (1 : Int32)) dX9_compare_211 (by decide) ?_
        refine hs_icmp_ne (tgt := 223) dX9_compare_212 (by decide) (fun hc3 => ?_) (fun hc3 => ?_)
        · rw [if_neg hc3] at h
          refine hs_iload_n dX9_compare_223 2 rfl ?_
          refine hs_iconst (v := (2 : Int32)) dX9_compare_224 (by decide) ?_
          refine hs_icmp_ne (tgt := 233) dX9_compare_225 (by decide) (fun hc4 => ?_) (fun hc4 => ?_)
          · rw [if_neg hc4] at h
            refine hs_iload dX9_compare_233 6 rfl ?_
            refine hs_aload_n dX9_compare_235 0 rfl ?_
            obtain ⟨r5, h5, h⟩ := hb_bind h
            refine hs_getR dX9_compare_236 lkX9_28 rfl h5 ?_
            refine hs_iload_n dX9_compare_239 1 rfl ?_
            obtain ⟨r6, h6, h⟩ := hb_bind h
            refine hs_iald dX9_compare_240 h6 ?_
            refine hs_isub dX9_compare_241 ?_
            obtain rfl := Option.some.inj h
            exact hs_ireturn dX9_compare_242 rfl (by rfl) (fun _ => rfl)
          · rw [if_pos hc4] at h
            refine hs_iload dX9_compare_228 5 rfl ?_
            refine hs_goto (tgt := 242) dX9_compare_230 (by decide) ?_
            obtain rfl := Option.some.inj h
            exact hs_ireturn dX9_compare_242 rfl (by rfl) (fun _ => rfl)
        · rw [if_pos hc3] at h
          refine hs_iload dX9_compare_215 7 rfl ?_
          refine hs_iload dX9_compare_217 4 rfl ?_
          refine hs_isub dX9_compare_219 ?_
          refine hs_goto (tgt := 242) dX9_compare_220 (by decide) ?_
          obtain rfl := Option.some.inj h
          exact hs_ireturn dX9_compare_242 rfl (by rfl) (fun _ => rfl)
      · rw [if_pos hc2] at h
        refine hs_iload_n dX9_compare_206 3 rfl ?_
        refine hs_goto (tgt := 242) dX9_compare_207 (by decide) ?_
        obtain rfl := Option.some.inj h
        exact hs_ireturn dX9_compare_242 rfl (by rfl) (fun _ => rfl)
    · rw [if_neg hc1] at h
      refine hs_iload dX9_compare_71 7 rfl ?_
      refine hs_aload_n dX9_compare_73 0 rfl ?_
      obtain ⟨r7, h7, h⟩ := hb_bind h
      refine hs_getR dX9_compare_74 lkX9_22 rfl h7 ?_
      refine hs_sipush (v := (520 : Int32)) dX9_compare_77 (by decide) ?_
      refine hs_iload_n dX9_compare_80 1 rfl ?_
      refine hs_imul dX9_compare_81 ?_
      refine hs_bipush (v := (13 : Int32)) dX9_compare_82 (by decide) ?_
      refine hs_iload dX9_compare_84 8 rfl ?_
      refine hs_imul dX9_compare_86 ?_
      refine hs_iadd dX9_compare_87 ?_
      obtain ⟨r8, h8, h⟩ := hb_bind h
      refine hs_iald dX9_compare_88 h8 ?_
      refine hs_if_eq (tgt := 96) dX9_compare_89 (by decide) (fun hc9 => ?_) (fun hc9 => ?_)
      · rw [if_pos hc9] at h
        refine hs_iconst (v := (0 : Int32)) dX9_compare_96 (by decide) ?_
        refine hs_sub (lv' := [(0, .ref x0), (1, .int x1), (2, .int x2), (3, .int x3), (4, .int x4), (5, .int x5), (6, .int x6), (8, .int x8)]) [0, 1, 2, 3, 4, 5, 6, 8] rfl ?_
        exact c_X9_compare_b97 (f_X9_compare_b64 n) ih h
      · rw [if_neg hc9] at h
        refine hs_iconst (v := (1 : Int32)) dX9_compare_92 (by decide) ?_
        refine hs_goto (tgt := 97) dX9_compare_93 (by decide) ?_
        refine hs_sub (lv' := [(0, .ref x0), (1, .int x1), (2, .int x2), (3, .int x3), (4, .int x4), (5, .int x5), (6, .int x6), (8, .int x8)]) [0, 1, 2, 3, 4, 5, 6, 8] rfl ?_
        exact c_X9_compare_b97 (f_X9_compare_b64 n) ih h
set_option maxHeartbeats 4000000 in
set_option maxRecDepth 20000 in
theorem c_X9_compare_b39 {G : hb_G} {l : Launch} {z : Bool}  {x0 : Nat} {x1 : Int32} {x2 : Int32} {s0 : Nat} {s1 : Int32} {σ : hb_M} {r : (Int32 × hb_M)} (h : f_X9_compare_b39 x0 x1 x2 s0 s1 σ = some r) : hb_T G l z mX9_compare 3 0 0 39 [(0, .ref x0), (1, .int x1), (2, .int x2)] [.int s1, .ref s0] σ (.inl (some (.int r.1)), r.2) := by
  unfold f_X9_compare_b39 at h
  obtain ⟨r1, h1, h⟩ := hb_bind h
  obtain ⟨h1, nf1, hb1⟩ := hb_on_at h1
  refine hs_callVi (μ' := mX9_refused) (mc := 0) (ms := 0) (rc := 0) (rs := 0) (As := [.int s1]) (rest := []) (ci := 9) dX9_compare_39 lmX9_74 okX9_refused rfl (by decide) rfl (Nat.le_of_ble_eq_true rfl) rfl hb1 (c_X9_refused h1) ?_
  refine hs_if_eq (tgt := 47) dX9_compare_42 (by decide) (fun hc2 => ?_) (fun hc2 => ?_)
  · rw [if_pos hc2] at h
    refine hs_iconst (v := (0 : Int32)) dX9_compare_47 (by decide) ?_
    refine hs_istore_n (lv' := [(3, .int (0 : Int32)), (0, .ref x0), (1, .int x1), (2, .int x2)]) dX9_compare_48 (by decide) rfl ?_
    refine hs_iconst (v := (0 : Int32)) dX9_compare_49 (by decide) ?_
    refine hs_istore (lv' := [(4, .int (0 : Int32)), (3, .int (0 : Int32)), (0, .ref x0), (1, .int x1), (2, .int x2)]) dX9_compare_50 (by decide) rfl ?_
    refine hs_iconst (v := (0 : Int32)) dX9_compare_52 (by decide) ?_
    refine hs_istore (lv' := [(5, .int (0 : Int32)), (4, .int (0 : Int32)), (3, .int (0 : Int32)), (0, .ref x0), (1, .int x1), (2, .int x2)]) dX9_compare_53 (by decide) rfl ?_
    refine hs_iconst (v := (0 : Int32)) dX9_compare_55 (by decide) ?_
    refine hs_istore (lv' := [(6, .int (0 : Int32)), (5, .int (0 : Int32)), (4, .int (0 : Int32)), (3, .int (0 : Int32)), (0, .ref x0), (1, .int x1), (2, .int x2)]) dX9_compare_56 (by decide) rfl ?_
    refine hs_iconst (v := (0 : Int32)) dX9_compare_58 (by decide) ?_
    refine hs_istore (lv' := [(7, .int (0 : Int32)), (6, .int (0 : Int32)), (5, .int (0 : Int32)), (4, .int (0 : Int32)), (3, .int (0 : Int32)), (0, .ref x0), (1, .int x1), (2, .int x2)]) dX9_compare_59 (by decide) rfl ?_
    refine hs_iconst (v := (0 : Int32)) dX9_compare_61 (by decide) ?_
    refine hs_istore (lv' := [(8, .int (0 : Int32)), (7, .int (0 : Int32)), (6, .int (0 : Int32)), (5, .int (0 : Int32)), (4, .int (0 : Int32)), (3, .int (0 : Int32)), (0, .ref x0), (1, .int x1), (2, .int x2)]) dX9_compare_62 (by decide) rfl ?_
    refine hs_sub (lv' := [(0, .ref x0), (1, .int x1), (2, .int x2), (3, .int (0 : Int32)), (4, .int (0 : Int32)), (5, .int (0 : Int32)), (6, .int (0 : Int32)), (7, .int (0 : Int32)), (8, .int (0 : Int32))]) [6, 7, 8, 5, 4, 3, 2, 1, 0] rfl ?_
    exact c_X9_compare_b64 hb_FU _ _ _ _ _ _ _ _ _ _ _ h
  · rw [if_neg hc2] at h
    refine hs_iconst (v := (0 : Int32)) dX9_compare_45 (by decide) ?_
    obtain rfl := Option.some.inj h
    exact hs_ireturn dX9_compare_46 rfl (by rfl) (fun _ => rfl)
set_option maxHeartbeats 4000000 in
set_option maxRecDepth 20000 in
theorem c_X9_compare {G : hb_G} {l : Launch} {z : Bool} {x0 : Nat} {x1 : Int32} {x2 : Int32} {σ : hb_M} {r : (Int32 × hb_M)} (h : f_X9_compare x0 x1 x2 σ = some r) : hb_Call G l z 3 0 0 mX9_compare [.ref x0, .int x1, .int x2] σ (.inl (some (.int r.1)), r.2) := by
  refine hb_met (by decide) (Nat.le_of_ble_eq_true rfl) ?_
  unfold f_X9_compare at h
  refine hs_aload_n dX9_compare_0 0 rfl ?_
  refine hs_iload_n dX9_compare_1 1 rfl ?_
  obtain ⟨r1, h1, h⟩ := hb_bind h
  refine hs_callSi (μ' := mX9_isPicture) (mc := 0) (ms := 0) (rc := 0) (rs := 0) (As := [.int x1]) (rest := [.ref x0]) dX9_compare_2 lmX9_319 okX9_isPicture rfl (by decide) rfl (Nat.le_of_ble_eq_true rfl) (c_X9_isPicture h1) ?_
  refine hs_if_ne (tgt := 12) dX9_compare_5 (by decide) (fun hc2 => ?_) (fun hc2 => ?_)
  · rw [if_neg hc2] at h
    refine hs_iload_n dX9_compare_12 2 rfl ?_
    refine hs_iconst (v := (0 : Int32)) dX9_compare_13 (by decide) ?_
    refine hs_iconst (v := (3 : Int32)) dX9_compare_14 (by decide) ?_
    obtain ⟨r3, h3, h⟩ := hb_bind h
    refine hs_callSi (μ' := mX9_within) (mc := 0) (ms := 0) (rc := 0) (rs := 0) (As := [.int x2, .int (0 : Int32), .int (3 : Int32)]) (rest := [.ref x0]) dX9_compare_15 lmX9_78 okX9_within rfl (by decide) rfl (Nat.le_of_ble_eq_true rfl) (c_X9_within h3) ?_
    refine hs_if_ne (tgt := 25) dX9_compare_18 (by decide) (fun hc4 => ?_) (fun hc4 => ?_)
    · rw [if_neg hc4] at h
      refine hs_aload_n dX9_compare_25 0 rfl ?_
      obtain ⟨r5, h5, h⟩ := hb_bind h
      refine hs_getR dX9_compare_26 lkX9_25 rfl h5 ?_
      refine hs_iload_n dX9_compare_29 1 rfl ?_
      obtain ⟨r6, h6, h⟩ := hb_bind h
      refine hs_iald dX9_compare_30 h6 ?_
      refine hs_if_ne (tgt := 38) dX9_compare_31 (by decide) (fun hc7 => ?_) (fun hc7 => ?_)
      · rw [if_neg hc7] at h
        refine hs_iconst (v := (0 : Int32)) dX9_compare_38 (by decide) ?_
        refine hs_sub (lv' := [(0, .ref x0), (1, .int x1), (2, .int x2)]) [0, 1, 2] rfl ?_
        exact c_X9_compare_b39 h
      · rw [if_pos hc7] at h
        refine hs_iconst (v := (3 : Int32)) dX9_compare_34 (by decide) ?_
        refine hs_goto (tgt := 39) dX9_compare_35 (by decide) ?_
        refine hs_sub (lv' := [(0, .ref x0), (1, .int x1), (2, .int x2)]) [0, 1, 2] rfl ?_
        exact c_X9_compare_b39 h
    · rw [if_pos hc4] at h
      refine hs_iconst (v := (2 : Int32)) dX9_compare_21 (by decide) ?_
      refine hs_goto (tgt := 39) dX9_compare_22 (by decide) ?_
      refine hs_sub (lv' := [(0, .ref x0), (1, .int x1), (2, .int x2)]) [0, 1, 2] rfl ?_
      exact c_X9_compare_b39 h
  · rw [if_pos hc2] at h
    refine hs_iconst (v := (1 : Int32)) dX9_compare_8 (by decide) ?_
    refine hs_goto (tgt := 39) dX9_compare_9 (by decide) ?_
    refine hs_sub (lv' := [(0, .ref x0), (1, .int x1), (2, .int x2)]) [0, 1, 2] rfl ?_
    exact c_X9_compare_b39 h
def mX9_growth : hb_Y := (yX9_growth, cX9_growth, 5, (some .int), [], false)
set_option maxHeartbeats 4000000 in
set_option maxRecDepth 20000 in
theorem c_X9_growth_b136 {G : hb_G} {l : Launch} {z : Bool}  (k49 : Nat → Int32 → Int32 → Int32 → Int32 → hb_M → Option (Int32 × hb_M)) (hk49 : ∀ (x0 : Nat) (x1 : Int32) (x2 : Int32) (x3 : Int32) (x4 : Int32) (σ : hb_M) (r : (Int32 × hb_M)), k49 x0 x1 x2 x3 x4 σ = some r → hb_T G l z mX9_growth 2 0 0 49 [(0, .ref x0), (1, .int x1), (2, .int x2), (3, .int x3), (4, .int x4)] [] σ (.inl (some (.int r.1)), r.2))  {x0 : Nat} {x1 : Int32} {x2 : Int32} {x4 : Int32} {s0 : Int32} {s1 : Int32} {σ : hb_M} {r : (Int32 × hb_M)} (h : f_X9_growth_b136 k49 x0 x1 x2 x4 s0 s1 σ = some r) : hb_T G l z mX9_growth 2 0 0 136 [(0, .ref x0), (1, .int x1), (2, .int x2), (4, .int x4)] [.int s1, .int s0] σ (.inl (some (.int r.1)), r.2) := by
  unfold f_X9_growth_b136 at h
  refine hs_isub dX9_growth_136 ?_
  refine hs_istore_n (lv' := [(3, .int (s0 - s1)), (0, .ref x0), (1, .int x1), (2, .int x2), (4, .int x4)]) dX9_growth_137 (by decide) rfl ?_
  refine hs_iinc2 (k := (1 : Int32)) (lv' := [(4, .int (x4 + (1 : Int32))), (3, .int (s0 - s1)), (0, .ref x0), (1, .int x1), (2, .int x2)]) dX9_growth_138 (by decide) 4 rfl (by decide) rfl ?_
  refine hs_goto (tgt := 49) dX9_growth_141 (by decide) ?_
  refine hs_sub (lv' := [(0, .ref x0), (1, .int x1), (2, .int x2), (3, .int (s0 - s1)), (4, .int (x4 + (1 : Int32)))]) [2, 3, 4, 1, 0] rfl ?_
  exact hk49 _ _ _ _ _ _ _ h
set_option maxHeartbeats 4000000 in
set_option maxRecDepth 20000 in
theorem c_X9_growth_b135 {G : hb_G} {l : Launch} {z : Bool}  (k49 : Nat → Int32 → Int32 → Int32 → Int32 → hb_M → Option (Int32 × hb_M)) (hk49 : ∀ (x0 : Nat) (x1 : Int32) (x2 : Int32) (x3 : Int32) (x4 : Int32) (σ : hb_M) (r : (Int32 × hb_M)), k49 x0 x1 x2 x3 x4 σ = some r → hb_T G l z mX9_growth 2 0 0 49 [(0, .ref x0), (1, .int x1), (2, .int x2), (3, .int x3), (4, .int x4)] [] σ (.inl (some (.int r.1)), r.2))  {x0 : Nat} {x1 : Int32} {x2 : Int32} {x4 : Int32} {s0 : Int32} {σ : hb_M} {r : (Int32 × hb_M)} (h : f_X9_growth_b135 k49 x0 x1 x2 x4 s0 σ = some r) : hb_T G l z mX9_growth 2 0 0 135 [(0, .ref x0), (1, .int x1), (2, .int x2), (4, .int x4)] [.int s0] σ (.inl (some (.int r.1)), r.2) := by
  unfold f_X9_growth_b135 at h
  refine hs_iconst (v := (0 : Int32)) dX9_growth_135 (by decide) ?_
  refine hs_sub (lv' := [(0, .ref x0), (1, .int x1), (2, .int x2), (4, .int x4)]) [0, 1, 2, 3] rfl ?_
  exact c_X9_growth_b136 k49 hk49 h
set_option maxHeartbeats 4000000 in
set_option maxRecDepth 20000 in
theorem c_X9_growth_b87 {G : hb_G} {l : Launch} {z : Bool}  (k49 : Nat → Int32 → Int32 → Int32 → Int32 → hb_M → Option (Int32 × hb_M)) (hk49 : ∀ (x0 : Nat) (x1 : Int32) (x2 : Int32) (x3 : Int32) (x4 : Int32) (σ : hb_M) (r : (Int32 × hb_M)), k49 x0 x1 x2 x3 x4 σ = some r → hb_T G l z mX9_growth 2 0 0 49 [(0, .ref x0), (1, .int x1), (2, .int x2), (3, .int x3), (4, .int x4)] [] σ (.inl (some (.int r.1)), r.2))  {x0 : Nat} {x1 : Int32} {x2 : Int32} {x4 : Int32} {s0 : Int32} {s1 : Int32} {σ : hb_M} {r : (Int32 × hb_M)} (h : f_X9_growth_b87 k49 x0 x1 x2 x4 s0 s1 σ = some r) : hb_T G l z mX9_growth 2 0 0 87 [(0, .ref x0), (1, .int x1), (2, .int x2), (4, .int x4)] [.int s1, .int s0] σ (.inl (some (.int r.1)), r.2) := by
  unfold f_X9_growth_b87 at h
  refine hs_iadd dX9_growth_87 ?_
  refine hs_istore_n (lv' := [(3, .int (s0 + s1)), (0, .ref x0), (1, .int x1), (2, .int x2), (4, .int x4)]) dX9_growth_88 (by decide) rfl ?_
  refine hs_iload_n dX9_growth_89 0 rfl ?_
  refine hs_aload_n dX9_growth_90 1 rfl ?_
  obtain ⟨r1, h1, h⟩ := hb_bind h
  refine hs_getR dX9_growth_91 lkX9_22 rfl h1 ?_
  refine hs_sipush (v := (520 : Int32)) dX9_growth_94 (by decide) ?_
  refine hs_iload_n dX9_growth_97 2 rfl ?_
  refine hs_imul dX9_growth_98 ?_
  refine hs_bipush (v := (13 : Int32)) dX9_growth_99 (by decide) ?_
  refine hs_iload dX9_growth_101 4 rfl ?_
  refine hs_imul dX9_growth_103 ?_
  refine hs_iadd dX9_growth_104 ?_
  obtain ⟨r2, h2, h⟩ := hb_bind h
  refine hs_iald dX9_growth_105 h2 ?_
  refine hs_if_eq (tgt := 135) dX9_growth_106 (by decide) (fun hc3 => ?_) (fun hc3 => ?_)
  · rw [if_pos hc3] at h
    refine hs_sub (lv' := [(0, .ref x0), (1, .int x1), (2, .int x2), (4, .int x4)]) [1, 2, 3, 4] rfl ?_
    exact c_X9_growth_b135 k49 hk49 h
  · rw [if_neg hc3] at h
    refine hs_aload_n dX9_growth_109 1 rfl ?_
    obtain ⟨r4, h4, h⟩ := hb_bind h
    refine hs_getR dX9_growth_110 lkX9_22 rfl h4 ?_
    refine hs_sipush (v := (520 : Int32)) dX9_growth_113 (by decide) ?_
    refine hs_iload_n dX9_growth_116 2 rfl ?_
    refine hs_imul dX9_growth_117 ?_
    refine hs_bipush (v := (13 : Int32)) dX9_growth_118 (by decide) ?_
    refine hs_iload dX9_growth_120 4 rfl ?_
    refine hs_imul dX9_growth_122 ?_
    refine hs_iadd dX9_growth_123 ?_
    refine hs_iconst (v := (1 : Int32)) dX9_growth_124 (by decide) ?_
    refine hs_iadd dX9_growth_125 ?_
    obtain ⟨r5, h5, h⟩ := hb_bind h
    refine hs_iald dX9_growth_126 h5 ?_
    refine hs_iload_n dX9_growth_127 3 rfl ?_
    refine hs_icmp_ne (tgt := 135) dX9_growth_128 (by decide) (fun hc6 => ?_) (fun hc6 => ?_)
    · rw [if_neg hc6] at h
      refine hs_sub (lv' := [(0, .ref x0), (1, .int x1), (2, .int x2), (4, .int x4)]) [1, 2, 3, 4] rfl ?_
      exact c_X9_growth_b135 k49 hk49 h
    · rw [if_pos hc6] at h
      refine hs_iconst (v := (1 : Int32)) dX9_growth_131 (by decide) ?_
      refine hs_goto (tgt := 136) dX9_growth_132 (by decide) ?_
      refine hs_sub (lv' := [(0, .ref x0), (1, .int x1), (2, .int x2), (4, .int x4)]) [1, 2, 3, 4] rfl ?_
      exact c_X9_growth_b136 k49 hk49 h
set_option maxHeartbeats 4000000 in
set_option maxRecDepth 20000 in
theorem c_X9_growth_b86 {G : hb_G} {l : Launch} {z : Bool}  (k49 : Nat → Int32 → Int32 → Int32 → Int32 → hb_M → Option (Int32 × hb_M)) (hk49 : ∀ (x0 : Nat) (x1 : Int32) (x2 : Int32) (x3 : Int32) (x4 : Int32) (σ : hb_M) (r : (Int32 × hb_M)), k49 x0 x1 x2 x3 x4 σ = some r → hb_T G l z mX9_growth 2 0 0 49 [(0, .ref x0), (1, .int x1), (2, .int x2), (3, .int x3), (4, .int x4)] [] σ (.inl (some (.int r.1)), r.2))  {x0 : Nat} {x1 : Int32} {x2 : Int32} {x4 : Int32} {s0 : Int32} {σ : hb_M} {r : (Int32 × hb_M)} (h : f_X9_growth_b86 k49 x0 x1 x2 x4 s0 σ = some r) : hb_T G l z mX9_growth 2 0 0 86 [(0, .ref x0), (1, .int x1), (2, .int x2), (4, .int x4)] [.int s0] σ (.inl (some (.int r.1)), r.2) := by
  unfold f_X9_growth_b86 at h
  refine hs_iconst (v := (0 : Int32)) dX9_growth_86 (by decide) ?_
  refine hs_sub (lv' := [(0, .ref x0), (1, .int x1), (2, .int x2), (4, .int x4)]) [0, 1, 2, 3] rfl ?_
  exact c_X9_growth_b87 k49 hk49 h
set_option maxHeartbeats 4000000 in
set_option maxRecDepth 20000 in
theorem c_X9_growth_b49 {G : hb_G} {l : Launch} {z : Bool} : ∀ (n : Nat) (x0 : Nat) (x1 : Int32) (x2 : Int32) (x3 : Int32) (x4 : Int32) (σ : hb_M) (r : (Int32 × hb_M)), f_X9_growth_b49 n x0 x1 x2 x3 x4 σ = some r → hb_T G l z mX9_growth 2 0 0 49 [(0, .ref x0), (1, .int x1), (2, .int x2), (3, .int x3), (4, .int x4)] [] σ (.inl (some (.int r.1)), r.2) := by
  intro n
  induction n with
  | zero =>
    intro x0 x1 x2 x3 x4 σ r h
    cases h
  | succ n ih =>
    intro x0 x1 x2 x3 x4 σ r h
    rw [f_X9_growth_b49] at h
    refine hs_iload dX9_growth_49 4 rfl ?_
    refine hs_bipush (v := (40 : Int32)) dX9_growth_51 (by decide) ?_
    refine hs_icmp_ge (tgt := 144) dX9_growth_53 (by decide) (fun hc1 => ?_) (fun hc1 => ?_)
    · rw [if_pos hc1] at h
      refine hs_iload_n dX9_growth_144 3 rfl ?_
      obtain rfl := Option.some.inj h
      exact hs_ireturn dX9_growth_145 rfl (by rfl) (fun _ => rfl)
    · rw [if_neg hc1] at h
      refine hs_iload_n dX9_growth_56 3 rfl ?_
      refine hs_aload_n dX9_growth_57 0 rfl ?_
      refine hs_iload dX9_growth_58 4 rfl ?_
      obtain ⟨r2, h2, h⟩ := hb_bind h
      obtain ⟨h2, nf2, hb2⟩ := hb_on_at h2
      refine hs_callVi (μ' := mX9_isObject) (mc := 0) (ms := 0) (rc := 0) (rs := 0) (As := [.int x4]) (rest := [.int x3]) (ci := 9) dX9_growth_60 lmX9_106 okX9_isObject rfl (by decide) rfl (Nat.le_of_ble_eq_true rfl) rfl hb2 (c_X9_isObject h2) ?_
      refine hs_if_eq (tgt := 86) dX9_growth_63 (by decide) (fun hc3 => ?_) (fun hc3 => ?_)
      · rw [if_pos hc3] at h
        refine hs_sub (lv' := [(0, .ref x0), (1, .int x1), (2, .int x2), (4, .int x4)]) [0, 1, 2, 4] rfl ?_
        exact c_X9_growth_b86 (f_X9_growth_b49 n) ih h
      · rw [if_neg hc3] at h
        refine hs_aload_n dX9_growth_66 0 rfl ?_
        obtain ⟨r4, h4, h⟩ := hb_bind h
        refine hs_getR dX9_growth_67 lkX9_7 rfl h4 ?_
        refine hs_iload dX9_growth_70 4 rfl ?_
        obtain ⟨r5, h5, h⟩ := hb_bind h
        refine hs_callSi (μ' := mX9_at) (mc := 0) (ms := 0) (rc := 0) (rs := 0) (As := [.int x4]) (rest := [.ref r4, .int x3]) dX9_growth_72 lmX9_103 okX9_at rfl (by decide) rfl (Nat.le_of_ble_eq_true rfl) (c_X9_at h5) ?_
        refine hs_iconst (v := (1 : Int32)) dX9_growth_75 (by decide) ?_
        refine hs_iadd dX9_growth_76 ?_
        obtain ⟨r6, h6, h⟩ := hb_bind h
        refine hs_iald dX9_growth_77 h6 ?_
        refine hs_iload_n dX9_growth_78 2 rfl ?_
        refine hs_icmp_ne (tgt := 86) dX9_growth_79 (by decide) (fun hc7 => ?_) (fun hc7 => ?_)
        · rw [if_neg hc7] at h
          refine hs_sub (lv' := [(0, .ref x0), (1, .int x1), (2, .int x2), (4, .int x4)]) [0, 1, 2, 4] rfl ?_
          exact c_X9_growth_b86 (f_X9_growth_b49 n) ih h
        · rw [if_pos hc7] at h
          refine hs_iconst (v := (1 : Int32)) dX9_growth_82 (by decide) ?_
          refine hs_goto (tgt := 87) dX9_growth_83 (by decide) ?_
          refine hs_sub (lv' := [(0, .ref x0), (1, .int x1), (2, .int x2), (4, .int x4)]) [0, 1, 2, 4] rfl ?_
          exact c_X9_growth_b87 (f_X9_growth_b49 n) ih h
set_option maxHeartbeats 4000000 in
set_option maxRecDepth 20000 in
theorem c_X9_growth_b36 {G : hb_G} {l : Launch} {z : Bool}  {x0 : Nat} {x1 : Int32} {x2 : Int32} {s0 : Nat} {s1 : Int32} {σ : hb_M} {r : (Int32 × hb_M)} (h : f_X9_growth_b36 x0 x1 x2 s0 s1 σ = some r) : hb_T G l z mX9_growth 2 0 0 36 [(0, .ref x0), (1, .int x1), (2, .int x2)] [.int s1, .ref s0] σ (.inl (some (.int r.1)), r.2) := by
  unfold f_X9_growth_b36 at h
  obtain ⟨r1, h1, h⟩ := hb_bind h
  obtain ⟨h1, nf1, hb1⟩ := hb_on_at h1
  refine hs_callVi (μ' := mX9_refused) (mc := 0) (ms := 0) (rc := 0) (rs := 0) (As := [.int s1]) (rest := []) (ci := 9) dX9_growth_36 lmX9_74 okX9_refused rfl (by decide) rfl (Nat.le_of_ble_eq_true rfl) rfl hb1 (c_X9_refused h1) ?_
  refine hs_if_eq (tgt := 44) dX9_growth_39 (by decide) (fun hc2 => ?_) (fun hc2 => ?_)
  · rw [if_pos hc2] at h
    refine hs_iconst (v := (0 : Int32)) dX9_growth_44 (by decide) ?_
    refine hs_istore_n (lv' := [(3, .int (0 : Int32)), (0, .ref x0), (1, .int x1), (2, .int x2)]) dX9_growth_45 (by decide) rfl ?_
    refine hs_iconst (v := (0 : Int32)) dX9_growth_46 (by decide) ?_
    refine hs_istore (lv' := [(4, .int (0 : Int32)), (3, .int (0 : Int32)), (0, .ref x0), (1, .int x1), (2, .int x2)]) dX9_growth_47 (by decide) rfl ?_
    refine hs_sub (lv' := [(0, .ref x0), (1, .int x1), (2, .int x2), (3, .int (0 : Int32)), (4, .int (0 : Int32))]) [2, 3, 4, 1, 0] rfl ?_
    exact c_X9_growth_b49 hb_FU _ _ _ _ _ _ _ h
  · rw [if_neg hc2] at h
    refine hs_iconst (v := (0 : Int32)) dX9_growth_42 (by decide) ?_
    obtain rfl := Option.some.inj h
    exact hs_ireturn dX9_growth_43 rfl (by rfl) (fun _ => rfl)
set_option maxHeartbeats 4000000 in
set_option maxRecDepth 20000 in
theorem c_X9_growth_b18 {G : hb_G} {l : Launch} {z : Bool}  {x0 : Nat} {x1 : Int32} {x2 : Int32} {s0 : Nat} {σ : hb_M} {r : (Int32 × hb_M)} (h : f_X9_growth_b18 x0 x1 x2 s0 σ = some r) : hb_T G l z mX9_growth 2 0 0 18 [(0, .ref x0), (1, .int x1), (2, .int x2)] [.ref s0] σ (.inl (some (.int r.1)), r.2) := by
  unfold f_X9_growth_b18 at h
  refine hs_iconst (v := (1 : Int32)) dX9_growth_18 (by decide) ?_
  refine hs_goto (tgt := 36) dX9_growth_19 (by decide) ?_
  refine hs_sub (lv' := [(0, .ref x0), (1, .int x1), (2, .int x2)]) [0, 1, 2] rfl ?_
  exact c_X9_growth_b36 h
set_option maxHeartbeats 4000000 in
set_option maxRecDepth 20000 in
theorem c_X9_growth {G : hb_G} {l : Launch} {z : Bool} {x0 : Nat} {x1 : Int32} {x2 : Int32} {σ : hb_M} {r : (Int32 × hb_M)} (h : f_X9_growth x0 x1 x2 σ = some r) : hb_Call G l z 2 0 0 mX9_growth [.ref x0, .int x1, .int x2] σ (.inl (some (.int r.1)), r.2) := by
  refine hb_met (by decide) (Nat.le_of_ble_eq_true rfl) ?_
  unfold f_X9_growth at h
  refine hs_aload_n dX9_growth_0 0 rfl ?_
  refine hs_iload_n dX9_growth_1 1 rfl ?_
  obtain ⟨r1, h1, h⟩ := hb_bind h
  refine hs_callSi (μ' := mX9_isPicture) (mc := 0) (ms := 0) (rc := 0) (rs := 0) (As := [.int x1]) (rest := [.ref x0]) dX9_growth_2 lmX9_319 okX9_isPicture rfl (by decide) rfl (Nat.le_of_ble_eq_true rfl) (c_X9_isPicture h1) ?_
  refine hs_if_eq (tgt := 18) dX9_growth_5 (by decide) (fun hc2 => ?_) (fun hc2 => ?_)
  · rw [if_pos hc2] at h
    refine hs_sub (lv' := [(0, .ref x0), (1, .int x1), (2, .int x2)]) [0, 1, 2] rfl ?_
    exact c_X9_growth_b18 h
  · rw [if_neg hc2] at h
    refine hs_iload_n dX9_growth_8 2 rfl ?_
    refine hs_iconst (v := (0 : Int32)) dX9_growth_9 (by decide) ?_
    refine hs_bipush (v := (11 : Int32)) dX9_growth_10 (by decide) ?_
    obtain ⟨r3, h3, h⟩ := hb_bind h
    refine hs_callSi (μ' := mX9_within) (mc := 0) (ms := 0) (rc := 0) (rs := 0) (As := [.int x2, .int (0 : Int32), .int (11 : Int32)]) (rest := [.ref x0]) dX9_growth_12 lmX9_78 okX9_within rfl (by decide) rfl (Nat.le_of_ble_eq_true rfl) (c_X9_within h3) ?_
    refine hs_if_ne (tgt := 22) dX9_growth_15 (by decide) (fun hc4 => ?_) (fun hc4 => ?_)
    · rw [if_neg hc4] at h
      refine hs_aload_n dX9_growth_22 0 rfl ?_
      obtain ⟨r5, h5, h⟩ := hb_bind h
      refine hs_getR dX9_growth_23 lkX9_25 rfl h5 ?_
      refine hs_iload_n dX9_growth_26 1 rfl ?_
      obtain ⟨r6, h6, h⟩ := hb_bind h
      refine hs_iald dX9_growth_27 h6 ?_
      refine hs_if_ne (tgt := 35) dX9_growth_28 (by decide) (fun hc7 => ?_) (fun hc7 => ?_)
      · rw [if_neg hc7] at h
        refine hs_iconst (v := (0 : Int32)) dX9_growth_35 (by decide) ?_
        refine hs_sub (lv' := [(0, .ref x0), (1, .int x1), (2, .int x2)]) [0, 1, 2] rfl ?_
        exact c_X9_growth_b36 h
      · rw [if_pos hc7] at h
        refine hs_iconst (v := (2 : Int32)) dX9_growth_31 (by decide) ?_
        refine hs_goto (tgt := 36) dX9_growth_32 (by decide) ?_
        refine hs_sub (lv' := [(0, .ref x0), (1, .int x1), (2, .int x2)]) [0, 1, 2] rfl ?_
        exact c_X9_growth_b36 h
    · rw [if_pos hc4] at h
      refine hs_sub (lv' := [(0, .ref x0), (1, .int x1), (2, .int x2)]) [0, 1, 2] rfl ?_
      exact c_X9_growth_b18 h
def mX9_mix : hb_Y := (yX9_mix, cX9_mix, 3, none, [], false)
theorem okX9_mix : hb_okV mX9_mix 1 := ⟨⟨hb_w 11 (by decide +kernel) (by decide +kernel), hb_w 1879 (by decide +kernel) (by decide +kernel), ⟨by decide +kernel, by decide +kernel, by decide +kernel⟩, by decide⟩, hb_w 1878 (by decide +kernel) (by decide +kernel), hb_wp (q := (yX9_mix, 29)) 91 (by decide +kernel) (by decide +kernel)⟩
set_option maxHeartbeats 4000000 in
set_option maxRecDepth 20000 in
theorem c_X9_mix {G : hb_G} {l : Launch} {z : Bool} {x0 : Nat} {x1 : Int64} {σ : hb_M} {r : hb_M} (h : f_X9_mix x0 x1 σ = some r) : hb_Call G l z 0 0 0 mX9_mix [.ref x0, .long x1] σ (.inl none, r) := by
  refine hb_met (by decide) (Nat.le_of_ble_eq_true rfl) ?_
  unfold f_X9_mix at h
  refine hs_aload_n dX9_mix_0 0 rfl ?_
  refine hs_ldc2 (v := (31 : Int64)) dX9_mix_1 wd_1880 ?_
  refine hs_aload_n dX9_mix_4 0 rfl ?_
  obtain ⟨r1, h1, h⟩ := hb_bind h
  refine hs_getL dX9_mix_5 lkX9_333 rfl h1 ?_
  refine hs_lmul dX9_mix_8 ?_
  refine hs_lload_n dX9_mix_9 1 rfl ?_
  refine hs_ladd dX9_mix_10 ?_
  obtain ⟨r2, h2, h⟩ := hb_bind h
  refine hs_putL dX9_mix_11 lpX9_mix_333 rfl h2 ?_
  obtain rfl := Option.some.inj h
  exact hs_return dX9_mix_14 rfl (fun _ => rfl)
def mX9_digest : hb_Y := (yX9_digest, cX9_digest, 3, (some .long), [], false)
set_option maxHeartbeats 4000000 in
set_option maxRecDepth 20000 in
theorem c_X9_digest_b218 {G : hb_G} {l : Launch} {z : Bool}  (k88 : Nat → Int32 → hb_M → Option (Int64 × hb_M)) (hk88 : ∀ (x0 : Nat) (x1 : Int32) (σ : hb_M) (r : (Int64 × hb_M)), k88 x0 x1 σ = some r → hb_T G l z mX9_digest 5 0 0 88 [(0, .ref x0), (1, .int x1)] [] σ (.inl (some (.long r.1)), r.2))  {x0 : Nat} {x1 : Int32} {σ : hb_M} {r : (Int64 × hb_M)} (h : f_X9_digest_b218 k88 x0 x1 σ = some r) : hb_T G l z mX9_digest 5 0 0 218 [(0, .ref x0), (1, .int x1)] [] σ (.inl (some (.long r.1)), r.2) := by
  unfold f_X9_digest_b218 at h
  refine hs_iinc2 (k := (1 : Int32)) (lv' := [(1, .int (x1 + (1 : Int32))), (0, .ref x0)]) dX9_digest_218 (by decide) 1 rfl (by decide) rfl ?_
  refine hs_goto (tgt := 88) dX9_digest_221 (by decide) ?_
  refine hs_sub (lv' := [(0, .ref x0), (1, .int (x1 + (1 : Int32)))]) [1, 0] rfl ?_
  exact hk88 _ _ _ _ h
set_option maxHeartbeats 4000000 in
set_option maxRecDepth 20000 in
theorem c_X9_digest_b135 {G : hb_G} {l : Launch} {z : Bool}  (k88 : Nat → Int32 → hb_M → Option (Int64 × hb_M)) (hk88 : ∀ (x0 : Nat) (x1 : Int32) (σ : hb_M) (r : (Int64 × hb_M)), k88 x0 x1 σ = some r → hb_T G l z mX9_digest 5 0 0 88 [(0, .ref x0), (1, .int x1)] [] σ (.inl (some (.long r.1)), r.2)) : ∀ (n : Nat) (x0 : Nat) (x1 : Int32) (x2 : Int32) (σ : hb_M) (r : (Int64 × hb_M)), f_X9_digest_b135 k88 n x0 x1 x2 σ = some r → hb_T G l z mX9_digest 5 0 0 135 [(0, .ref x0), (1, .int x1), (2, .int x2)] [] σ (.inl (some (.long r.1)), r.2) := by
  intro n
  induction n with
  | zero =>
    intro x0 x1 x2 σ r h
    cases h
  | succ n ih =>
    intro x0 x1 x2 σ r h
    rw [f_X9_digest_b135] at h
    refine hs_iload_n dX9_digest_135 2 rfl ?_
    refine hs_aload_n dX9_digest_136 0 rfl ?_
    obtain ⟨r1, h1, h⟩ := hb_bind h
    refine hs_getR dX9_digest_137 lkX9_7 rfl h1 ?_
    refine hs_iload_n dX9_digest_140 1 rfl ?_
    obtain ⟨r2, h2, h⟩ := hb_bind h
    refine hs_callSi (μ' := mX9_at) (mc := 0) (ms := 0) (rc := 0) (rs := 0) (As := [.int x1]) (rest := [.ref r1, .int x2]) dX9_digest_141 lmX9_103 okX9_at rfl (by decide) rfl (Nat.le_of_ble_eq_true rfl) (c_X9_at h2) ?_
    refine hs_iconst (v := (2 : Int32)) dX9_digest_144 (by decide) ?_
    refine hs_iadd dX9_digest_145 ?_
    obtain ⟨r3, h3, h⟩ := hb_bind h
    refine hs_iald dX9_digest_146 h3 ?_
    refine hs_icmp_ge (tgt := 174) dX9_digest_147 (by decide) (fun hc4 => ?_) (fun hc4 => ?_)
    · rw [if_pos hc4] at h
      refine hs_aload_n dX9_digest_174 0 rfl ?_
      refine hs_aload_n dX9_digest_175 0 rfl ?_
      obtain ⟨r5, h5, h⟩ := hb_bind h
      refine hs_getR dX9_digest_176 lkX9_35 rfl h5 ?_
      refine hs_iload_n dX9_digest_179 1 rfl ?_
      obtain ⟨r6, h6, h⟩ := hb_bind h
      refine hs_iald dX9_digest_180 h6 ?_
      refine hs_i2l dX9_digest_181 ?_
      obtain ⟨r7, h7, h⟩ := hb_bind h
      obtain ⟨h7, nf7, hb7⟩ := hb_on_at h7
      refine hs_callVv (μ' := mX9_mix) (mc := 0) (ms := 0) (rc := 0) (rs := 0) (As := [.long r6.toInt64]) (rest := []) (ci := 9) dX9_digest_182 lmX9_338 okX9_mix rfl (by decide) rfl (Nat.le_of_ble_eq_true rfl) rfl hb7 (c_X9_mix h7) ?_
      refine hs_aload_n dX9_digest_185 0 rfl ?_
      refine hs_aload_n dX9_digest_186 0 rfl ?_
      refine hs_iload_n dX9_digest_187 1 rfl ?_
      obtain ⟨r8, h8, h⟩ := hb_bind h
      obtain ⟨h8, nf8, hb8⟩ := hb_on_at h8
      refine hs_callVi (μ' := mX9_immediate) (mc := 0) (ms := 0) (rc := 0) (rs := 0) (As := [.int x1]) (rest := [.ref x0]) (ci := 9) dX9_digest_188 lmX9_201 okX9_immediate rfl (by decide) rfl (Nat.le_of_ble_eq_true rfl) rfl hb8 (c_X9_immediate h8) ?_
      refine hs_i2l dX9_digest_191 ?_
      obtain ⟨r9, h9, h⟩ := hb_bind h
      obtain ⟨h9, nf9, hb9⟩ := hb_on_at h9
      refine hs_callVv (μ' := mX9_mix) (mc := 0) (ms := 0) (rc := 0) (rs := 0) (As := [.long r8.1.toInt64]) (rest := []) (ci := 9) dX9_digest_192 lmX9_338 okX9_mix rfl (by decide) rfl (Nat.le_of_ble_eq_true rfl) rfl hb9 (c_X9_mix h9) ?_
      refine hs_aload_n dX9_digest_195 0 rfl ?_
      refine hs_aload_n dX9_digest_196 0 rfl ?_
      refine hs_iload_n dX9_digest_197 1 rfl ?_
      obtain ⟨r10, h10, h⟩ := hb_bind h
      obtain ⟨h10, nf10, hb10⟩ := hb_on_at h10
      refine hs_callVi (μ' := mX9_retainedBy) (mc := 0) (ms := 0) (rc := 0) (rs := 0) (As := [.int x1]) (rest := [.ref x0]) (ci := 9) dX9_digest_198 lmX9_208 okX9_retainedBy rfl (by decide) rfl (Nat.le_of_ble_eq_true rfl) rfl hb10 (c_X9_retainedBy h10) ?_
      refine hs_i2l dX9_digest_201 ?_
      obtain ⟨r11, h11, h⟩ := hb_bind h
      obtain ⟨h11, nf11, hb11⟩ := hb_on_at h11
      refine hs_callVv (μ' := mX9_mix) (mc := 0) (ms := 0) (rc := 0) (rs := 0) (As := [.long r10.1.toInt64]) (rest := []) (ci := 9) dX9_digest_202 lmX9_338 okX9_mix rfl (by decide) rfl (Nat.le_of_ble_eq_true rfl) rfl hb11 (c_X9_mix h11) ?_
      refine hs_aload_n dX9_digest_205 0 rfl ?_
      refine hs_aload_n dX9_digest_206 0 rfl ?_
      refine hs_iload_n dX9_digest_207 1 rfl ?_
      obtain ⟨r12, h12, h⟩ := hb_bind h
      obtain ⟨h12, nf12, hb12⟩ := hb_on_at h12
      refine hs_callVl (μ' := mX9_componentOf) (mc := 0) (ms := 0) (rc := 0) (rs := 0) (As := [.int x1]) (rest := [.ref x0]) (ci := 9) dX9_digest_208 lmX9_217 okX9_componentOf rfl (by decide) rfl (Nat.le_of_ble_eq_true rfl) rfl hb12 (c_X9_componentOf h12) ?_
      obtain ⟨r13, h13, h⟩ := hb_bind h
      refine hs_callSi (μ' := mX9_first) (mc := 0) (ms := 0) (rc := 0) (rs := 0) (As := [.long r12.1]) (rest := [.ref x0]) dX9_digest_211 lmX9_194 okX9_first rfl (by decide) rfl (Nat.le_of_ble_eq_true rfl) (c_X9_first h13) ?_
      refine hs_i2l dX9_digest_214 ?_
      obtain ⟨r14, h14, h⟩ := hb_bind h
      obtain ⟨h14, nf14, hb14⟩ := hb_on_at h14
      refine hs_callVv (μ' := mX9_mix) (mc := 0) (ms := 0) (rc := 0) (rs := 0) (As := [.long r13.1.toInt64]) (rest := []) (ci := 9) dX9_digest_215 lmX9_338 okX9_mix rfl (by decide) rfl (Nat.le_of_ble_eq_true rfl) rfl hb14 (c_X9_mix h14) ?_
      refine hs_sub (lv' := [(0, .ref x0), (1, .int x1)]) [0, 1] rfl ?_
      exact c_X9_digest_b218 k88 hk88 h
    · rw [if_neg hc4] at h
      refine hs_aload_n dX9_digest_150 0 rfl ?_
      refine hs_aload_n dX9_digest_151 0 rfl ?_
      obtain ⟨r15, h15, h⟩ := hb_bind h
      refine hs_getR dX9_digest_152 lkX9_7 rfl h15 ?_
      refine hs_iload_n dX9_digest_155 1 rfl ?_
      obtain ⟨r16, h16, h⟩ := hb_bind h
      refine hs_callSi (μ' := mX9_at) (mc := 0) (ms := 0) (rc := 0) (rs := 0) (As := [.int x1]) (rest := [.ref r15, .ref x0]) dX9_digest_156 lmX9_103 okX9_at rfl (by decide) rfl (Nat.le_of_ble_eq_true rfl) (c_X9_at h16) ?_
      refine hs_iconst (v := (5 : Int32)) dX9_digest_159 (by decide) ?_
      refine hs_iadd dX9_digest_160 ?_
      refine hs_iload_n dX9_digest_161 2 rfl ?_
      refine hs_iadd dX9_digest_162 ?_
      obtain ⟨r17, h17, h⟩ := hb_bind h
      refine hs_iald dX9_digest_163 h17 ?_
      refine hs_i2l dX9_digest_164 ?_
      obtain ⟨r18, h18, h⟩ := hb_bind h
      obtain ⟨h18, nf18, hb18⟩ := hb_on_at h18
      refine hs_callVv (μ' := mX9_mix) (mc := 0) (ms := 0) (rc := 0) (rs := 0) (As := [.long r17.toInt64]) (rest := []) (ci := 9) dX9_digest_165 lmX9_338 okX9_mix rfl (by decide) rfl (Nat.le_of_ble_eq_true rfl) rfl hb18 (c_X9_mix h18) ?_
      refine hs_iinc2 (k := (1 : Int32)) (lv' := [(2, .int (x2 + (1 : Int32))), (0, .ref x0), (1, .int x1)]) dX9_digest_168 (by decide) 2 rfl (by decide) rfl ?_
      refine hs_goto (tgt := 135) dX9_digest_171 (by decide) ?_
      refine hs_sub (lv' := [(0, .ref x0), (1, .int x1), (2, .int (x2 + (1 : Int32)))]) [1, 2, 0] rfl ?_
      exact ih _ _ _ _ _ h
set_option maxHeartbeats 4000000 in
set_option maxRecDepth 20000 in
theorem c_X9_digest_b110 {G : hb_G} {l : Launch} {z : Bool}  (k88 : Nat → Int32 → hb_M → Option (Int64 × hb_M)) (hk88 : ∀ (x0 : Nat) (x1 : Int32) (σ : hb_M) (r : (Int64 × hb_M)), k88 x0 x1 σ = some r → hb_T G l z mX9_digest 5 0 0 88 [(0, .ref x0), (1, .int x1)] [] σ (.inl (some (.long r.1)), r.2)) : ∀ (n : Nat) (x0 : Nat) (x1 : Int32) (x2 : Int32) (σ : hb_M) (r : (Int64 × hb_M)), f_X9_digest_b110 k88 n x0 x1 x2 σ = some r → hb_T G l z mX9_digest 5 0 0 110 [(0, .ref x0), (1, .int x1), (2, .int x2)] [] σ (.inl (some (.long r.1)), r.2) := by
  intro n
  induction n with
  | zero =>
    intro x0 x1 x2 σ r h
    cases h
  | succ n ih =>
    intro x0 x1 x2 σ r h
    rw [f_X9_digest_b110] at h
    refine hs_iload_n dX9_digest_110 2 rfl ?_
    refine hs_bipush (v := (6 : Int32)) dX9_digest_111 (by decide) ?_
    refine hs_icmp_ge (tgt := 133) dX9_digest_113 (by decide) (fun hc1 => ?_) (fun hc1 => ?_)
    · rw [if_pos hc1] at h
      refine hs_iconst (v := (0 : Int32)) dX9_digest_133 (by decide) ?_
      refine hs_istore_n (lv' := [(2, .int (0 : Int32)), (0, .ref x0), (1, .int x1)]) dX9_digest_134 (by decide) rfl ?_
      refine hs_sub (lv' := [(0, .ref x0), (1, .int x1), (2, .int (0 : Int32))]) [1, 2, 0] rfl ?_
      exact c_X9_digest_b135 k88 hk88 hb_FU _ _ _ _ _ h
    · rw [if_neg hc1] at h
      refine hs_aload_n dX9_digest_116 0 rfl ?_
      refine hs_aload_n dX9_digest_117 0 rfl ?_
      refine hs_iload_n dX9_digest_118 1 rfl ?_
      refine hs_iload_n dX9_digest_119 2 rfl ?_
      obtain ⟨r2, h2, h⟩ := hb_bind h
      obtain ⟨h2, nf2, hb2⟩ := hb_on_at h2
      refine hs_callVi (μ' := mX9_objectBy) (mc := 0) (ms := 0) (rc := 0) (rs := 0) (As := [.int x1, .int x2]) (rest := [.ref x0]) (ci := 9) dX9_digest_120 lmX9_151 okX9_objectBy rfl (by decide) rfl (Nat.le_of_ble_eq_true rfl) rfl hb2 (c_X9_objectBy h2) ?_
      refine hs_i2l dX9_digest_123 ?_
      obtain ⟨r3, h3, h⟩ := hb_bind h
      obtain ⟨h3, nf3, hb3⟩ := hb_on_at h3
      refine hs_callVv (μ' := mX9_mix) (mc := 0) (ms := 0) (rc := 0) (rs := 0) (As := [.long r2.1.toInt64]) (rest := []) (ci := 9) dX9_digest_124 lmX9_338 okX9_mix rfl (by decide) rfl (Nat.le_of_ble_eq_true rfl) rfl hb3 (c_X9_mix h3) ?_
      refine hs_iinc2 (k := (1 : Int32)) (lv' := [(2, .int (x2 + (1 : Int32))), (0, .ref x0), (1, .int x1)]) dX9_digest_127 (by decide) 2 rfl (by decide) rfl ?_
      refine hs_goto (tgt := 110) dX9_digest_130 (by decide) ?_
      refine hs_sub (lv' := [(0, .ref x0), (1, .int x1), (2, .int (x2 + (1 : Int32)))]) [1, 2, 0] rfl ?_
      exact ih _ _ _ _ _ h
set_option maxHeartbeats 4000000 in
set_option maxRecDepth 20000 in
theorem c_X9_digest_b88 {G : hb_G} {l : Launch} {z : Bool} : ∀ (n : Nat) (x0 : Nat) (x1 : Int32) (σ : hb_M) (r : (Int64 × hb_M)), f_X9_digest_b88 n x0 x1 σ = some r → hb_T G l z mX9_digest 5 0 0 88 [(0, .ref x0), (1, .int x1)] [] σ (.inl (some (.long r.1)), r.2) := by
  intro n
  induction n with
  | zero =>
    intro x0 x1 σ r h
    cases h
  | succ n ih =>
    intro x0 x1 σ r h
    rw [f_X9_digest_b88] at h
    refine hs_iload_n dX9_digest_88 1 rfl ?_
    refine hs_bipush (v := (40 : Int32)) dX9_digest_89 (by decide) ?_
    refine hs_icmp_ge (tgt := 224) dX9_digest_91 (by decide) (fun hc1 => ?_) (fun hc1 => ?_)
    · rw [if_pos hc1] at h
      refine hs_aload_n dX9_digest_224 0 rfl ?_
      refine hs_aload_n dX9_digest_225 0 rfl ?_
      obtain ⟨r2, h2, h⟩ := hb_bind h
      refine hs_getI dX9_digest_226 lkX9_248 rfl h2 ?_
      refine hs_i2l dX9_digest_229 ?_
      obtain ⟨r3, h3, h⟩ := hb_bind h
      obtain ⟨h3, nf3, hb3⟩ := hb_on_at h3
      refine hs_callVv (μ' := mX9_mix) (mc := 0) (ms := 0) (rc := 0) (rs := 0) (As := [.long r2.toInt64]) (rest := []) (ci := 9) dX9_digest_230 lmX9_338 okX9_mix rfl (by decide) rfl (Nat.le_of_ble_eq_true rfl) rfl hb3 (c_X9_mix h3) ?_
      refine hs_aload_n dX9_digest_233 0 rfl ?_
      refine hs_aload_n dX9_digest_234 0 rfl ?_
      obtain ⟨r4, h4, h⟩ := hb_bind h
      refine hs_getI dX9_digest_235 lkX9_67 rfl h4 ?_
      refine hs_i2l dX9_digest_238 ?_
      obtain ⟨r5, h5, h⟩ := hb_bind h
      obtain ⟨h5, nf5, hb5⟩ := hb_on_at h5
      refine hs_callVv (μ' := mX9_mix) (mc := 0) (ms := 0) (rc := 0) (rs := 0) (As := [.long r4.toInt64]) (rest := []) (ci := 9) dX9_digest_239 lmX9_338 okX9_mix rfl (by decide) rfl (Nat.le_of_ble_eq_true rfl) rfl hb5 (c_X9_mix h5) ?_
      refine hs_aload_n dX9_digest_242 0 rfl ?_
      obtain ⟨r6, h6, h⟩ := hb_bind h
      refine hs_getL dX9_digest_243 lkX9_333 rfl h6 ?_
      obtain rfl := Option.some.inj h
      exact hs_lreturn dX9_digest_246 rfl (fun _ => rfl)
    · rw [if_neg hc1] at h
      refine hs_aload_n dX9_digest_94 0 rfl ?_
      refine hs_iload_n dX9_digest_95 1 rfl ?_
      obtain ⟨r7, h7, h⟩ := hb_bind h
      obtain ⟨h7, nf7, hb7⟩ := hb_on_at h7
      refine hs_callVi (μ' := mX9_isObject) (mc := 0) (ms := 0) (rc := 0) (rs := 0) (As := [.int x1]) (rest := []) (ci := 9) dX9_digest_96 lmX9_106 okX9_isObject rfl (by decide) rfl (Nat.le_of_ble_eq_true rfl) rfl hb7 (c_X9_isObject h7) ?_
      refine hs_if_eq (tgt := 218) dX9_digest_99 (by decide) (fun hc8 => ?_) (fun hc8 => ?_)
      · rw [if_pos hc8] at h
        refine hs_sub (lv' := [(0, .ref x0), (1, .int x1)]) [0, 1] rfl ?_
        exact c_X9_digest_b218 (f_X9_digest_b88 n) ih h
      · rw [if_neg hc8] at h
        refine hs_aload_n dX9_digest_102 0 rfl ?_
        refine hs_iload_n dX9_digest_103 1 rfl ?_
        refine hs_i2l dX9_digest_104 ?_
        obtain ⟨r9, h9, h⟩ := hb_bind h
        obtain ⟨h9, nf9, hb9⟩ := hb_on_at h9
        refine hs_callVv (μ' := mX9_mix) (mc := 0) (ms := 0) (rc := 0) (rs := 0) (As := [.long x1.toInt64]) (rest := []) (ci := 9) dX9_digest_105 lmX9_338 okX9_mix rfl (by decide) rfl (Nat.le_of_ble_eq_true rfl) rfl hb9 (c_X9_mix h9) ?_
        refine hs_iconst (v := (0 : Int32)) dX9_digest_108 (by decide) ?_
        refine hs_istore_n (lv' := [(2, .int (0 : Int32)), (0, .ref x0), (1, .int x1)]) dX9_digest_109 (by decide) rfl ?_
        refine hs_sub (lv' := [(0, .ref x0), (1, .int x1), (2, .int (0 : Int32))]) [1, 2, 0] rfl ?_
        exact c_X9_digest_b110 (f_X9_digest_b88 n) ih hb_FU _ _ _ _ _ h
set_option maxHeartbeats 4000000 in
set_option maxRecDepth 20000 in
theorem c_X9_digest_b37 {G : hb_G} {l : Launch} {z : Bool} : ∀ (n : Nat) (x0 : Nat) (x1 : Int32) (σ : hb_M) (r : (Int64 × hb_M)), f_X9_digest_b37 n x0 x1 σ = some r → hb_T G l z mX9_digest 5 0 0 37 [(0, .ref x0), (1, .int x1)] [] σ (.inl (some (.long r.1)), r.2) := by
  intro n
  induction n with
  | zero =>
    intro x0 x1 σ r h
    cases h
  | succ n ih =>
    intro x0 x1 σ r h
    rw [f_X9_digest_b37] at h
    refine hs_iload_n dX9_digest_37 1 rfl ?_
    refine hs_aload_n dX9_digest_38 0 rfl ?_
    obtain ⟨r1, h1, h⟩ := hb_bind h
    refine hs_getR dX9_digest_39 lkX9_7 rfl h1 ?_
    refine hs_iconst (v := (0 : Int32)) dX9_digest_42 (by decide) ?_
    obtain ⟨r2, h2, h⟩ := hb_bind h
    refine hs_iald dX9_digest_43 h2 ?_
    refine hs_icmp_ge (tgt := 86) dX9_digest_44 (by decide) (fun hc3 => ?_) (fun hc3 => ?_)
    · rw [if_pos hc3] at h
      refine hs_iconst (v := (0 : Int32)) dX9_digest_86 (by decide) ?_
      refine hs_istore_n (lv' := [(1, .int (0 : Int32)), (0, .ref x0)]) dX9_digest_87 (by decide) rfl ?_
      refine hs_sub (lv' := [(0, .ref x0), (1, .int (0 : Int32))]) [1, 0] rfl ?_
      exact c_X9_digest_b88 hb_FU _ _ _ _ h
    · rw [if_neg hc3] at h
      refine hs_aload_n dX9_digest_47 0 rfl ?_
      refine hs_aload_n dX9_digest_48 0 rfl ?_
      refine hs_iload_n dX9_digest_49 1 rfl ?_
      refine hs_iconst (v := (0 : Int32)) dX9_digest_50 (by decide) ?_
      obtain ⟨r4, h4, h⟩ := hb_bind h
      obtain ⟨h4, nf4, hb4⟩ := hb_on_at h4
      refine hs_callVi (μ' := mX9_classBy) (mc := 0) (ms := 0) (rc := 0) (rs := 0) (As := [.int x1, .int (0 : Int32)]) (rest := [.ref x0]) (ci := 9) dX9_digest_51 lmX9_95 okX9_classBy rfl (by decide) rfl (Nat.le_of_ble_eq_true rfl) rfl hb4 (c_X9_classBy h4) ?_
      refine hs_i2l dX9_digest_54 ?_
      obtain ⟨r5, h5, h⟩ := hb_bind h
      obtain ⟨h5, nf5, hb5⟩ := hb_on_at h5
      refine hs_callVv (μ' := mX9_mix) (mc := 0) (ms := 0) (rc := 0) (rs := 0) (As := [.long r4.1.toInt64]) (rest := []) (ci := 9) dX9_digest_55 lmX9_338 okX9_mix rfl (by decide) rfl (Nat.le_of_ble_eq_true rfl) rfl hb5 (c_X9_mix h5) ?_
      refine hs_aload_n dX9_digest_58 0 rfl ?_
      refine hs_aload_n dX9_digest_59 0 rfl ?_
      refine hs_iload_n dX9_digest_60 1 rfl ?_
      refine hs_iconst (v := (1 : Int32)) dX9_digest_61 (by decide) ?_
      obtain ⟨r6, h6, h⟩ := hb_bind h
      obtain ⟨h6, nf6, hb6⟩ := hb_on_at h6
      refine hs_callVi (μ' := mX9_classBy) (mc := 0) (ms := 0) (rc := 0) (rs := 0) (As := [.int x1, .int (1 : Int32)]) (rest := [.ref x0]) (ci := 9) dX9_digest_62 lmX9_95 okX9_classBy rfl (by decide) rfl (Nat.le_of_ble_eq_true rfl) rfl hb6 (c_X9_classBy h6) ?_
      refine hs_i2l dX9_digest_65 ?_
      obtain ⟨r7, h7, h⟩ := hb_bind h
      obtain ⟨h7, nf7, hb7⟩ := hb_on_at h7
      refine hs_callVv (μ' := mX9_mix) (mc := 0) (ms := 0) (rc := 0) (rs := 0) (As := [.long r6.1.toInt64]) (rest := []) (ci := 9) dX9_digest_66 lmX9_338 okX9_mix rfl (by decide) rfl (Nat.le_of_ble_eq_true rfl) rfl hb7 (c_X9_mix h7) ?_
      refine hs_aload_n dX9_digest_69 0 rfl ?_
      refine hs_aload_n dX9_digest_70 0 rfl ?_
      refine hs_iload_n dX9_digest_71 1 rfl ?_
      refine hs_iconst (v := (2 : Int32)) dX9_digest_72 (by decide) ?_
      obtain ⟨r8, h8, h⟩ := hb_bind h
      obtain ⟨h8, nf8, hb8⟩ := hb_on_at h8
      refine hs_callVi (μ' := mX9_classBy) (mc := 0) (ms := 0) (rc := 0) (rs := 0) (As := [.int x1, .int (2 : Int32)]) (rest := [.ref x0]) (ci := 9) dX9_digest_73 lmX9_95 okX9_classBy rfl (by decide) rfl (Nat.le_of_ble_eq_true rfl) rfl hb8 (c_X9_classBy h8) ?_
      refine hs_i2l dX9_digest_76 ?_
      obtain ⟨r9, h9, h⟩ := hb_bind h
      obtain ⟨h9, nf9, hb9⟩ := hb_on_at h9
      refine hs_callVv (μ' := mX9_mix) (mc := 0) (ms := 0) (rc := 0) (rs := 0) (As := [.long r8.1.toInt64]) (rest := []) (ci := 9) dX9_digest_77 lmX9_338 okX9_mix rfl (by decide) rfl (Nat.le_of_ble_eq_true rfl) rfl hb9 (c_X9_mix h9) ?_
      refine hs_iinc2 (k := (1 : Int32)) (lv' := [(1, .int (x1 + (1 : Int32))), (0, .ref x0)]) dX9_digest_80 (by decide) 1 rfl (by decide) rfl ?_
      refine hs_goto (tgt := 37) dX9_digest_83 (by decide) ?_
      refine hs_sub (lv' := [(0, .ref x0), (1, .int (x1 + (1 : Int32)))]) [1, 0] rfl ?_
      exact ih _ _ _ _ h
set_option maxHeartbeats 4000000 in
set_option maxRecDepth 20000 in
theorem c_X9_digest {G : hb_G} {l : Launch} {z : Bool} {x0 : Nat} {σ : hb_M} {r : (Int64 × hb_M)} (h : f_X9_digest x0 σ = some r) : hb_Call G l z 5 0 0 mX9_digest [.ref x0] σ (.inl (some (.long r.1)), r.2) := by
  refine hb_met (by decide) (Nat.le_of_ble_eq_true rfl) ?_
  unfold f_X9_digest at h
  refine hs_aload_n dX9_digest_0 0 rfl ?_
  refine hs_iconst (v := (0 : Int32)) dX9_digest_1 (by decide) ?_
  obtain ⟨r1, h1, h⟩ := hb_bind h
  refine hs_putI dX9_digest_2 lpX9_digest_63 rfl h1 ?_
  refine hs_aload_n dX9_digest_5 0 rfl ?_
  obtain ⟨r2, h2, h⟩ := hb_bind h
  obtain ⟨h2, nf2, hb2⟩ := hb_on_at h2
  refine hs_callVv (μ' := mX9_laysRetained) (mc := 0) (ms := 0) (rc := 0) (rs := 0) (As := []) (rest := []) (ci := 9) dX9_digest_6 lmX9_198 okX9_laysRetained rfl (by decide) rfl (Nat.le_of_ble_eq_true rfl) rfl hb2 (c_X9_laysRetained h2) ?_
  refine hs_aload_n dX9_digest_9 0 rfl ?_
  obtain ⟨r3, h3, h⟩ := hb_bind h
  obtain ⟨h3, nf3, hb3⟩ := hb_on_at h3
  refine hs_callVv (μ' := mX9_laysFar) (mc := 0) (ms := 0) (rc := 0) (rs := 0) (As := []) (rest := []) (ci := 9) dX9_digest_10 lmX9_191 okX9_laysFar rfl (by decide) rfl (Nat.le_of_ble_eq_true rfl) rfl hb3 (c_X9_laysFar h3) ?_
  refine hs_aload_n dX9_digest_13 0 rfl ?_
  obtain ⟨r4, h4, h⟩ := hb_bind h
  obtain ⟨h4, nf4, hb4⟩ := hb_on_at h4
  refine hs_callVv (μ' := mX9_laysLeads) (mc := 0) (ms := 0) (rc := 0) (rs := 0) (As := []) (rest := []) (ci := 9) dX9_digest_14 lmX9_214 okX9_laysLeads rfl (by decide) rfl (Nat.le_of_ble_eq_true rfl) rfl hb4 (c_X9_laysLeads h4) ?_
  refine hs_aload_n dX9_digest_17 0 rfl ?_
  refine hs_ldc2 (v := (1759 : Int64)) dX9_digest_18 wd_1875 ?_
  obtain ⟨r5, h5, h⟩ := hb_bind h
  refine hs_putL dX9_digest_21 lpX9_digest_333 rfl h5 ?_
  refine hs_aload_n dX9_digest_24 0 rfl ?_
  refine hs_aload_n dX9_digest_25 0 rfl ?_
  obtain ⟨r6, h6, h⟩ := hb_bind h
  refine hs_getR dX9_digest_26 lkX9_7 rfl h6 ?_
  refine hs_iconst (v := (0 : Int32)) dX9_digest_29 (by decide) ?_
  obtain ⟨r7, h7, h⟩ := hb_bind h
  refine hs_iald dX9_digest_30 h7 ?_
  refine hs_i2l dX9_digest_31 ?_
  obtain ⟨r8, h8, h⟩ := hb_bind h
  obtain ⟨h8, nf8, hb8⟩ := hb_on_at h8
  refine hs_callVv (μ' := mX9_mix) (mc := 0) (ms := 0) (rc := 0) (rs := 0) (As := [.long r7.toInt64]) (rest := []) (ci := 9) dX9_digest_32 lmX9_338 okX9_mix rfl (by decide) rfl (Nat.le_of_ble_eq_true rfl) rfl hb8 (c_X9_mix h8) ?_
  refine hs_iconst (v := (0 : Int32)) dX9_digest_35 (by decide) ?_
  refine hs_istore_n (lv' := [(1, .int (0 : Int32)), (0, .ref x0)]) dX9_digest_36 (by decide) rfl ?_
  refine hs_sub (lv' := [(0, .ref x0), (1, .int (0 : Int32))]) [1, 0] rfl ?_
  exact c_X9_digest_b37 hb_FU _ _ _ _ h
