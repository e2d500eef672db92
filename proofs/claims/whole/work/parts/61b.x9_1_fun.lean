def mX9_init : hb_Y := (yX9_init, cX9_init, 1, none, [], false)
set_option maxHeartbeats 4000000 in
set_option maxRecDepth 20000 in
theorem c_X9_init {G : hb_G} {l : Launch} {x0 : Nat} {σ : hb_M} {r : hb_M} (h : f_X9_init x0 σ = some r) : hb_Call G l false 0 17 6069 mX9_init [.ref x0] σ (.inl none, r) := by
  refine hb_met (by decide) (Nat.le_of_ble_eq_true rfl) ?_
  unfold f_X9_init at h
  refine hs_aload_n dX9_init_0 0 rfl ?_
  refine hs_objInit dX9_init_1 wd_1323 hb_oi1 hb_oi2 (Nat.le_of_ble_eq_true rfl) ?_
  refine hs_aload_n dX9_init_4 0 rfl ?_
  refine hs_sipush (v := (552 : Int32)) dX9_init_5 (by decide) ?_
  obtain ⟨r1, h1, h⟩ := hb_bind h
  refine hs_newI (rc := 16) (rs := 5517) (k := 552) dX9_init_8 wd_96 h1 (by decide) ?_
  obtain ⟨r2, h2, h⟩ := hb_bind h
  refine hs_putR dX9_init_10 lpX9_init_7 rfl h2 ?_
  refine hs_aload_n dX9_init_13 0 rfl ?_
  refine hs_sipush (v := (2760 : Int32)) dX9_init_14 (by decide) ?_
  obtain ⟨r3, h3, h⟩ := hb_bind h
  refine hs_newI (rc := 15) (rs := 2757) (k := 2760) dX9_init_17 wd_96 h3 (by decide) ?_
  obtain ⟨r4, h4, h⟩ := hb_bind h
  refine hs_putR dX9_init_19 lpX9_init_13 rfl h4 ?_
  refine hs_aload_n dX9_init_22 0 rfl ?_
  refine hs_sipush (v := (552 : Int32)) dX9_init_23 (by decide) ?_
  obtain ⟨r5, h5, h⟩ := hb_bind h
  refine hs_newI (rc := 14) (rs := 2205) (k := 552) dX9_init_26 wd_96 h5 (by decide) ?_
  obtain ⟨r6, h6, h⟩ := hb_bind h
  refine hs_putR dX9_init_28 lpX9_init_16 rfl h6 ?_
  refine hs_aload_n dX9_init_31 0 rfl ?_
  refine hs_bipush (v := (100 : Int32)) dX9_init_32 (by decide) ?_
  obtain ⟨r7, h7, h⟩ := hb_bind h
  refine hs_newI (rc := 13) (rs := 2105) (k := 100) dX9_init_34 wd_96 h7 (by decide) ?_
  obtain ⟨r8, h8, h⟩ := hb_bind h
  refine hs_putR dX9_init_36 lpX9_init_19 rfl h8 ?_
  refine hs_aload_n dX9_init_39 0 rfl ?_
  refine hs_sipush (v := (1040 : Int32)) dX9_init_40 (by decide) ?_
  obtain ⟨r9, h9, h⟩ := hb_bind h
  refine hs_newI (rc := 12) (rs := 1065) (k := 1040) dX9_init_43 wd_96 h9 (by decide) ?_
  obtain ⟨r10, h10, h⟩ := hb_bind h
  refine hs_putR dX9_init_45 lpX9_init_22 rfl h10 ?_
  refine hs_aload_n dX9_init_48 0 rfl ?_
  refine hs_iconst (v := (2 : Int32)) dX9_init_49 (by decide) ?_
  obtain ⟨r11, h11, h⟩ := hb_bind h
  refine hs_newI (rc := 11) (rs := 1063) (k := 2) dX9_init_50 wd_96 h11 (by decide) ?_
  obtain ⟨r12, h12, h⟩ := hb_bind h
  refine hs_putR dX9_init_52 lpX9_init_25 rfl h12 ?_
  refine hs_aload_n dX9_init_55 0 rfl ?_
  refine hs_iconst (v := (2 : Int32)) dX9_init_56 (by decide) ?_
  obtain ⟨r13, h13, h⟩ := hb_bind h
  refine hs_newI (rc := 10) (rs := 1061) (k := 2) dX9_init_57 wd_96 h13 (by decide) ?_
  obtain ⟨r14, h14, h⟩ := hb_bind h
  refine hs_putR dX9_init_59 lpX9_init_28 rfl h14 ?_
  refine hs_aload_n dX9_init_62 0 rfl ?_
  refine hs_bipush (v := (40 : Int32)) dX9_init_63 (by decide) ?_
  obtain ⟨r15, h15, h⟩ := hb_bind h
  refine hs_newL (rc := 9) (rs := 1021) (k := 40) dX9_init_65 wd_183 h15 (by decide) ?_
  obtain ⟨r16, h16, h⟩ := hb_bind h
  refine hs_putR dX9_init_67 lpX9_init_31 rfl h16 ?_
  refine hs_aload_n dX9_init_70 0 rfl ?_
  refine hs_bipush (v := (40 : Int32)) dX9_init_71 (by decide) ?_
  obtain ⟨r17, h17, h⟩ := hb_bind h
  refine hs_newI (rc := 8) (rs := 981) (k := 40) dX9_init_73 wd_96 h17 (by decide) ?_
  obtain ⟨r18, h18, h⟩ := hb_bind h
  refine hs_putR dX9_init_75 lpX9_init_35 rfl h18 ?_
  refine hs_aload_n dX9_init_78 0 rfl ?_
  refine hs_bipush (v := (41 : Int32)) dX9_init_79 (by decide) ?_
  obtain ⟨r19, h19, h⟩ := hb_bind h
  refine hs_newL (rc := 7) (rs := 940) (k := 41) dX9_init_81 wd_183 h19 (by decide) ?_
  obtain ⟨r20, h20, h⟩ := hb_bind h
  refine hs_putR dX9_init_83 lpX9_init_38 rfl h20 ?_
  refine hs_aload_n dX9_init_86 0 rfl ?_
  refine hs_bipush (v := (40 : Int32)) dX9_init_87 (by decide) ?_
  obtain ⟨r21, h21, h⟩ := hb_bind h
  refine hs_newL (rc := 6) (rs := 900) (k := 40) dX9_init_89 wd_183 h21 (by decide) ?_
  obtain ⟨r22, h22, h⟩ := hb_bind h
  refine hs_putR dX9_init_91 lpX9_init_41 rfl h22 ?_
  refine hs_aload_n dX9_init_94 0 rfl ?_
  refine hs_bipush (v := (100 : Int32)) dX9_init_95 (by decide) ?_
  obtain ⟨r23, h23, h⟩ := hb_bind h
  refine hs_newI (rc := 5) (rs := 800) (k := 100) dX9_init_97 wd_96 h23 (by decide) ?_
  obtain ⟨r24, h24, h⟩ := hb_bind h
  refine hs_putR dX9_init_99 lpX9_init_44 rfl h24 ?_
  refine hs_aload_n dX9_init_102 0 rfl ?_
  refine hs_bipush (v := (100 : Int32)) dX9_init_103 (by decide) ?_
  obtain ⟨r25, h25, h⟩ := hb_bind h
  refine hs_newI (rc := 4) (rs := 700) (k := 100) dX9_init_105 wd_96 h25 (by decide) ?_
  obtain ⟨r26, h26, h⟩ := hb_bind h
  refine hs_putR dX9_init_107 lpX9_init_47 rfl h26 ?_
  refine hs_aload_n dX9_init_110 0 rfl ?_
  refine hs_bipush (v := (100 : Int32)) dX9_init_111 (by decide) ?_
  obtain ⟨r27, h27, h⟩ := hb_bind h
  refine hs_newI (rc := 3) (rs := 600) (k := 100) dX9_init_113 wd_96 h27 (by decide) ?_
  obtain ⟨r28, h28, h⟩ := hb_bind h
  refine hs_putR dX9_init_115 lpX9_init_50 rfl h28 ?_
  refine hs_aload_n dX9_init_118 0 rfl ?_
  refine hs_bipush (v := (100 : Int32)) dX9_init_119 (by decide) ?_
  obtain ⟨r29, h29, h⟩ := hb_bind h
  refine hs_newI (rc := 2) (rs := 500) (k := 100) dX9_init_121 wd_96 h29 (by decide) ?_
  obtain ⟨r30, h30, h⟩ := hb_bind h
  refine hs_putR dX9_init_123 lpX9_init_53 rfl h30 ?_
  refine hs_aload_n dX9_init_126 0 rfl ?_
  refine hs_bipush (v := (100 : Int32)) dX9_init_127 (by decide) ?_
  obtain ⟨r31, h31, h⟩ := hb_bind h
  refine hs_newZ (rc := 1) (rs := 400) (k := 100) dX9_init_129 wd_311 h31 (by decide) ?_
  obtain ⟨r32, h32, h⟩ := hb_bind h
  refine hs_putR dX9_init_131 lpX9_init_56 rfl h32 ?_
  refine hs_aload_n dX9_init_134 0 rfl ?_
  refine hs_sipush (v := (400 : Int32)) dX9_init_135 (by decide) ?_
  obtain ⟨r33, h33, h⟩ := hb_bind h
  refine hs_newI (rc := 0) (rs := 0) (k := 400) dX9_init_138 wd_96 h33 (by decide) ?_
  obtain ⟨r34, h34, h⟩ := hb_bind h
  refine hs_putR dX9_init_140 lpX9_init_60 rfl h34 ?_
  refine hs_aload_n dX9_init_143 0 rfl ?_
  obtain ⟨r35, h35, h⟩ := hb_bind h
  refine hs_getR dX9_init_144 lkX9_7 rfl h35 ?_
  refine hs_iconst (v := (0 : Int32)) dX9_init_147 (by decide) ?_
  refine hs_iconst (v := (1 : Int32)) dX9_init_148 (by decide) ?_
  obtain ⟨r36, h36, h⟩ := hb_bind h
  refine hs_iast dX9_init_149 h36 ?_
  refine hs_aload_n dX9_init_150 0 rfl ?_
  obtain ⟨r37, h37, h⟩ := hb_bind h
  refine hs_getR dX9_init_151 lkX9_7 rfl h37 ?_
  refine hs_iconst (v := (1 : Int32)) dX9_init_154 (by decide) ?_
  refine hs_iconst (v := (-1 : Int32)) dX9_init_155 (by decide) ?_
  obtain ⟨r38, h38, h⟩ := hb_bind h
  refine hs_iast dX9_init_156 h38 ?_
  refine hs_aload_n dX9_init_157 0 rfl ?_
  obtain ⟨r39, h39, h⟩ := hb_bind h
  refine hs_getR dX9_init_158 lkX9_7 rfl h39 ?_
  refine hs_bipush (v := (31 : Int32)) dX9_init_161 (by decide) ?_
  refine hs_iconst (v := (1 : Int32)) dX9_init_163 (by decide) ?_
  obtain ⟨r40, h40, h⟩ := hb_bind h
  refine hs_iast dX9_init_164 h40 ?_
  obtain rfl := Option.some.inj h
  exact hs_return dX9_init_165 rfl (fun _ => rfl)
def mX9_thrown : hb_Y := (yX9_thrown, cX9_thrown, 1, (some .int), [], false)
set_option maxHeartbeats 4000000 in
set_option maxRecDepth 20000 in
theorem c_X9_thrown {G : hb_G} {l : Launch} {z : Bool} {x0 : Nat} {σ : hb_M} {r : (Int32 × hb_M)} (h : f_X9_thrown x0 σ = some r) : hb_Call G l z 0 0 0 mX9_thrown [.ref x0] σ (.inl (some (.int r.1)), r.2) := by
  refine hb_met (by decide) (Nat.le_of_ble_eq_true rfl) ?_
  unfold f_X9_thrown at h
  refine hs_aload_n dX9_thrown_0 0 rfl ?_
  obtain ⟨r1, h1, h⟩ := hb_bind h
  refine hs_getI dX9_thrown_1 lkX9_63 rfl h1 ?_
  obtain rfl := Option.some.inj h
  exact hs_ireturn dX9_thrown_4 rfl (by rfl) (fun _ => rfl)
def mX9_refused : hb_Y := (yX9_refused, cX9_refused, 2, (some .boolean), [], false)
theorem okX9_refused : hb_okV mX9_refused 1 := ⟨⟨hb_w 11 (by decide +kernel) (by decide +kernel), hb_w 1423 (by decide +kernel) (by decide +kernel), ⟨by decide +kernel, by decide +kernel, by decide +kernel⟩, by decide⟩, hb_w 1422 (by decide +kernel) (by decide +kernel), hb_wp (q := (yX9_refused, 29)) 34 (by decide +kernel) (by decide +kernel)⟩
set_option maxHeartbeats 4000000 in
set_option maxRecDepth 20000 in
theorem c_X9_refused {G : hb_G} {l : Launch} {z : Bool} {x0 : Nat} {x1 : Int32} {σ : hb_M} {r : (Int32 × hb_M)} (h : f_X9_refused x0 x1 σ = some r) : hb_Call G l z 0 0 0 mX9_refused [.ref x0, .int x1] σ (.inl (some (.int r.1)), r.2) := by
  refine hb_met (by decide) (Nat.le_of_ble_eq_true rfl) ?_
  unfold f_X9_refused at h
  refine hs_aload_n dX9_refused_0 0 rfl ?_
  refine hs_iload_n dX9_refused_1 1 rfl ?_
  obtain ⟨r1, h1, h⟩ := hb_bind h
  refine hs_putI dX9_refused_2 lpX9_refused_63 rfl h1 ?_
  refine hs_iload_n dX9_refused_5 1 rfl ?_
  refine hs_if_le (tgt := 13) dX9_refused_6 (by decide) (fun hc2 => ?_) (fun hc2 => ?_)
  · rw [if_pos hc2] at h
    refine hs_iconst (v := (0 : Int32)) dX9_refused_13 (by decide) ?_
    obtain rfl := Option.some.inj h
    exact hs_ireturn dX9_refused_14 rfl (by decide) (fun _ => rfl)
  · rw [if_neg hc2] at h
    refine hs_iconst (v := (1 : Int32)) dX9_refused_9 (by decide) ?_
    refine hs_goto (tgt := 14) dX9_refused_10 (by decide) ?_
    obtain rfl := Option.some.inj h
    exact hs_ireturn dX9_refused_14 rfl (by decide) (fun _ => rfl)
def mX9_within : hb_Y := (yX9_within, cX9_within, 3, (some .boolean), [], false)
theorem okX9_within : hb_okS mX9_within 3 := ⟨⟨hb_w 11 (by decide +kernel) (by decide +kernel), hb_w 1434 (by decide +kernel) (by decide +kernel), ⟨by decide +kernel, by decide +kernel, by decide +kernel⟩, by decide⟩, hb_w 1433 (by decide +kernel) (by decide +kernel)⟩
set_option maxHeartbeats 4000000 in
set_option maxRecDepth 20000 in
theorem c_X9_within {G : hb_G} {l : Launch} {z : Bool} {x0 : Int32} {x1 : Int32} {x2 : Int32} {σ : hb_M} {r : (Int32 × hb_M)} (h : f_X9_within x0 x1 x2 σ = some r) : hb_Call G l z 0 0 0 mX9_within [.int x0, .int x1, .int x2] σ (.inl (some (.int r.1)), r.2) := by
  refine hb_met (by decide) (Nat.le_of_ble_eq_true rfl) ?_
  unfold f_X9_within at h
  refine hs_iload_n dX9_within_0 0 rfl ?_
  refine hs_iload_n dX9_within_1 1 rfl ?_
  refine hs_icmp_lt (tgt := 14) dX9_within_2 (by decide) (fun hc1 => ?_) (fun hc1 => ?_)
  · rw [if_pos hc1] at h
    refine hs_iconst (v := (0 : Int32)) dX9_within_14 (by decide) ?_
    obtain rfl := Option.some.inj h
    exact hs_ireturn dX9_within_15 rfl (by decide) (fun _ => rfl)
  · rw [if_neg hc1] at h
    refine hs_iload_n dX9_within_5 0 rfl ?_
    refine hs_iload_n dX9_within_6 2 rfl ?_
    refine hs_icmp_gt (tgt := 14) dX9_within_7 (by decide) (fun hc2 => ?_) (fun hc2 => ?_)
    · rw [if_pos hc2] at h
      refine hs_iconst (v := (0 : Int32)) dX9_within_14 (by decide) ?_
      obtain rfl := Option.some.inj h
      exact hs_ireturn dX9_within_15 rfl (by decide) (fun _ => rfl)
    · rw [if_neg hc2] at h
      refine hs_iconst (v := (1 : Int32)) dX9_within_10 (by decide) ?_
      refine hs_goto (tgt := 15) dX9_within_11 (by decide) ?_
      obtain rfl := Option.some.inj h
      exact hs_ireturn dX9_within_15 rfl (by decide) (fun _ => rfl)
def mX9_keeps : hb_Y := (yX9_keeps, cX9_keeps, 3, none, [], false)
theorem okX9_keeps : hb_okV mX9_keeps 1 := ⟨⟨hb_w 11 (by decide +kernel) (by decide +kernel), hb_w 1446 (by decide +kernel) (by decide +kernel), ⟨by decide +kernel, by decide +kernel, by decide +kernel⟩, by decide⟩, hb_w 1445 (by decide +kernel) (by decide +kernel), hb_wp (q := (yX9_keeps, 29)) 38 (by decide +kernel) (by decide +kernel)⟩
set_option maxHeartbeats 4000000 in
set_option maxRecDepth 20000 in
theorem c_X9_keeps_b51 {G : hb_G} {l : Launch} {z : Bool} : ∀ (n : Nat) (x0 : Nat) (x1 : Nat) (x2 : Int32) (σ : hb_M) (r : hb_M), f_X9_keeps_b51 n x0 x1 x2 σ = some r → hb_T G l z mX9_keeps 0 0 0 51 [(0, .ref x0), (1, .ref x1), (2, .int x2)] [] σ (.inl none, r) := by
  intro n
  induction n with
  | zero =>
    intro x0 x1 x2 σ r h
    cases h
  | succ n ih =>
    intro x0 x1 x2 σ r h
    rw [f_X9_keeps_b51] at h
    refine hs_iload_n dX9_keeps_51 2 rfl ?_
    refine hs_sipush (v := (552 : Int32)) dX9_keeps_52 (by decide) ?_
    refine hs_icmp_ge (tgt := 82) dX9_keeps_55 (by decide) (fun hc1 => ?_) (fun hc1 => ?_)
    · rw [if_pos hc1] at h
      refine hs_aload_n dX9_keeps_82 0 rfl ?_
      refine hs_dup dX9_keeps_83 rfl ?_
      obtain ⟨r2, h2, h⟩ := hb_bind h
      refine hs_getI dX9_keeps_84 lkX9_67 rfl h2 ?_
      refine hs_iconst (v := (1 : Int32)) dX9_keeps_87 (by decide) ?_
      refine hs_iadd dX9_keeps_88 ?_
      obtain ⟨r3, h3, h⟩ := hb_bind h
      refine hs_putI dX9_keeps_89 lpX9_keeps_67 rfl h3 ?_
      obtain rfl := Option.some.inj h
      exact hs_return dX9_keeps_92 rfl (fun _ => rfl)
    · rw [if_neg hc1] at h
      refine hs_aload_n dX9_keeps_58 0 rfl ?_
      obtain ⟨r4, h4, h⟩ := hb_bind h
      refine hs_getR dX9_keeps_59 lkX9_13 rfl h4 ?_
      refine hs_sipush (v := (552 : Int32)) dX9_keeps_62 (by decide) ?_
      refine hs_aload_n dX9_keeps_65 0 rfl ?_
      obtain ⟨r5, h5, h⟩ := hb_bind h
      refine hs_getI dX9_keeps_66 lkX9_67 rfl h5 ?_
      refine hs_imul dX9_keeps_69 ?_
      refine hs_iload_n dX9_keeps_70 2 rfl ?_
      refine hs_iadd dX9_keeps_71 ?_
      refine hs_aload_n dX9_keeps_72 1 rfl ?_
      refine hs_iload_n dX9_keeps_73 2 rfl ?_
      obtain ⟨r6, h6, h⟩ := hb_bind h
      refine hs_iald dX9_keeps_74 h6 ?_
      obtain ⟨r7, h7, h⟩ := hb_bind h
      refine hs_iast dX9_keeps_75 h7 ?_
      refine hs_iinc2 (k := (1 : Int32)) (lv' := [(2, .int (x2 + (1 : Int32))), (0, .ref x0), (1, .ref x1)]) dX9_keeps_76 (by decide) 2 rfl (by decide) rfl ?_
      refine hs_goto (tgt := 51) dX9_keeps_79 (by decide) ?_
      refine hs_sub (lv' := [(0, .ref x0), (1, .ref x1), (2, .int (x2 + (1 : Int32)))]) [1, 2, 0] rfl ?_
      exact ih _ _ _ _ _ h
set_option maxHeartbeats 4000000 in
set_option maxRecDepth 20000 in
theorem c_X9_keeps_b49 {G : hb_G} {l : Launch} {z : Bool}  {x0 : Nat} {x1 : Nat} {σ : hb_M} {r : hb_M} (h : f_X9_keeps_b49 x0 x1 σ = some r) : hb_T G l z mX9_keeps 0 0 0 49 [(0, .ref x0), (1, .ref x1)] [] σ (.inl none, r) := by
  unfold f_X9_keeps_b49 at h
  refine hs_iconst (v := (0 : Int32)) dX9_keeps_49 (by decide) ?_
  refine hs_istore_n (lv' := [(2, .int (0 : Int32)), (0, .ref x0), (1, .ref x1)]) dX9_keeps_50 (by decide) rfl ?_
  refine hs_sub (lv' := [(0, .ref x0), (1, .ref x1), (2, .int (0 : Int32))]) [1, 2, 0] rfl ?_
  exact c_X9_keeps_b51 hb_FU _ _ _ _ _ h
set_option maxHeartbeats 4000000 in
set_option maxRecDepth 20000 in
theorem c_X9_keeps_b10 {G : hb_G} {l : Launch} {z : Bool} : ∀ (n : Nat) (x0 : Nat) (x1 : Nat) (x2 : Int32) (σ : hb_M) (r : hb_M), f_X9_keeps_b10 n x0 x1 x2 σ = some r → hb_T G l z mX9_keeps 0 0 0 10 [(0, .ref x0), (1, .ref x1), (2, .int x2)] [] σ (.inl none, r) := by
  intro n
  induction n with
  | zero =>
    intro x0 x1 x2 σ r h
    cases h
  | succ n ih =>
    intro x0 x1 x2 σ r h
    rw [f_X9_keeps_b10] at h
    refine hs_iload_n dX9_keeps_10 2 rfl ?_
    refine hs_sipush (v := (2208 : Int32)) dX9_keeps_11 (by decide) ?_
    refine hs_icmp_ge (tgt := 39) dX9_keeps_14 (by decide) (fun hc1 => ?_) (fun hc1 => ?_)
    · rw [if_pos hc1] at h
      refine hs_aload_n dX9_keeps_39 0 rfl ?_
      refine hs_dup dX9_keeps_40 rfl ?_
      obtain ⟨r2, h2, h⟩ := hb_bind h
      refine hs_getI dX9_keeps_41 lkX9_67 rfl h2 ?_
      refine hs_iconst (v := (1 : Int32)) dX9_keeps_44 (by decide) ?_
      refine hs_isub dX9_keeps_45 ?_
      obtain ⟨r3, h3, h⟩ := hb_bind h
      refine hs_putI dX9_keeps_46 lpX9_keeps_67 rfl h3 ?_
      refine hs_sub (lv' := [(0, .ref x0), (1, .ref x1)]) [0, 1] rfl ?_
      exact c_X9_keeps_b49 h
    · rw [if_neg hc1] at h
      refine hs_aload_n dX9_keeps_17 0 rfl ?_
      obtain ⟨r4, h4, h⟩ := hb_bind h
      refine hs_getR dX9_keeps_18 lkX9_13 rfl h4 ?_
      refine hs_iload_n dX9_keeps_21 2 rfl ?_
      refine hs_aload_n dX9_keeps_22 0 rfl ?_
      obtain ⟨r5, h5, h⟩ := hb_bind h
      refine hs_getR dX9_keeps_23 lkX9_13 rfl h5 ?_
      refine hs_iload_n dX9_keeps_26 2 rfl ?_
      refine hs_sipush (v := (552 : Int32)) dX9_keeps_27 (by decide) ?_
      refine hs_iadd dX9_keeps_30 ?_
      obtain ⟨r6, h6, h⟩ := hb_bind h
      refine hs_iald dX9_keeps_31 h6 ?_
      obtain ⟨r7, h7, h⟩ := hb_bind h
      refine hs_iast dX9_keeps_32 h7 ?_
      refine hs_iinc2 (k := (1 : Int32)) (lv' := [(2, .int (x2 + (1 : Int32))), (0, .ref x0), (1, .ref x1)]) dX9_keeps_33 (by decide) 2 rfl (by decide) rfl ?_
      refine hs_goto (tgt := 10) dX9_keeps_36 (by decide) ?_
      refine hs_sub (lv' := [(0, .ref x0), (1, .ref x1), (2, .int (x2 + (1 : Int32)))]) [1, 2, 0] rfl ?_
      exact ih _ _ _ _ _ h
set_option maxHeartbeats 4000000 in
set_option maxRecDepth 20000 in
theorem c_X9_keeps {G : hb_G} {l : Launch} {z : Bool} {x0 : Nat} {x1 : Nat} {σ : hb_M} {r : hb_M} (h : f_X9_keeps x0 x1 σ = some r) : hb_Call G l z 0 0 0 mX9_keeps [.ref x0, .ref x1] σ (.inl none, r) := by
  refine hb_met (by decide) (Nat.le_of_ble_eq_true rfl) ?_
  unfold f_X9_keeps at h
  refine hs_aload_n dX9_keeps_0 0 rfl ?_
  obtain ⟨r1, h1, h⟩ := hb_bind h
  refine hs_getI dX9_keeps_1 lkX9_67 rfl h1 ?_
  refine hs_iconst (v := (5 : Int32)) dX9_keeps_4 (by decide) ?_
  refine hs_icmp_ne (tgt := 49) dX9_keeps_5 (by decide) (fun hc2 => ?_) (fun hc2 => ?_)
  · rw [if_neg hc2] at h
    refine hs_sub (lv' := [(0, .ref x0), (1, .ref x1)]) [0, 1] rfl ?_
    exact c_X9_keeps_b49 h
  · rw [if_pos hc2] at h
    refine hs_iconst (v := (0 : Int32)) dX9_keeps_8 (by decide) ?_
    refine hs_istore_n (lv' := [(2, .int (0 : Int32)), (0, .ref x0), (1, .ref x1)]) dX9_keeps_9 (by decide) rfl ?_
    refine hs_sub (lv' := [(0, .ref x0), (1, .ref x1), (2, .int (0 : Int32))]) [1, 2, 0] rfl ?_
    exact c_X9_keeps_b10 hb_FU _ _ _ _ _ h
def mX9_saves : hb_Y := (yX9_saves, cX9_saves, 1, none, [], false)
theorem okX9_saves : hb_okV mX9_saves 0 := ⟨⟨hb_w 11 (by decide +kernel) (by decide +kernel), hb_w 1442 (by decide +kernel) (by decide +kernel), ⟨by decide +kernel, by decide +kernel, by decide +kernel⟩, by decide⟩, hb_w 1441 (by decide +kernel) (by decide +kernel), hb_wp (q := (yX9_saves, 29)) 37 (by decide +kernel) (by decide +kernel)⟩
set_option maxHeartbeats 4000000 in
set_option maxRecDepth 20000 in
theorem c_X9_saves {G : hb_G} {l : Launch} {z : Bool} {x0 : Nat} {σ : hb_M} {r : hb_M} (h : f_X9_saves x0 σ = some r) : hb_Call G l z 1 0 0 mX9_saves [.ref x0] σ (.inl none, r) := by
  refine hb_met (by decide) (Nat.le_of_ble_eq_true rfl) ?_
  unfold f_X9_saves at h
  refine hs_aload_n dX9_saves_0 0 rfl ?_
  refine hs_aload_n dX9_saves_1 0 rfl ?_
  obtain ⟨r1, h1, h⟩ := hb_bind h
  refine hs_getR dX9_saves_2 lkX9_7 rfl h1 ?_
  obtain ⟨r2, h2, h⟩ := hb_bind h
  obtain ⟨h2, nf2, hb2⟩ := hb_on_at h2
  refine hs_callVv (μ' := mX9_keeps) (mc := 0) (ms := 0) (rc := 0) (rs := 0) (As := [.ref r1]) (rest := []) (ci := 9) dX9_saves_5 lmX9_70 okX9_keeps rfl (by decide) rfl (Nat.le_of_ble_eq_true rfl) rfl hb2 (c_X9_keeps h2) ?_
  obtain rfl := Option.some.inj h
  exact hs_return dX9_saves_8 rfl (fun _ => rfl)
def mX9_undo : hb_Y := (yX9_undo, cX9_undo, 2, (some .int), [], false)
set_option maxHeartbeats 4000000 in
set_option maxRecDepth 20000 in
theorem c_X9_undo_b33 {G : hb_G} {l : Launch} {z : Bool} : ∀ (n : Nat) (x0 : Nat) (x1 : Int32) (σ : hb_M) (r : (Int32 × hb_M)), f_X9_undo_b33 n x0 x1 σ = some r → hb_T G l z mX9_undo 1 0 0 33 [(0, .ref x0), (1, .int x1)] [] σ (.inl (some (.int r.1)), r.2) := by
  intro n
  induction n with
  | zero =>
    intro x0 x1 σ r h
    cases h
  | succ n ih =>
    intro x0 x1 σ r h
    rw [f_X9_undo_b33] at h
    refine hs_iload_n dX9_undo_33 1 rfl ?_
    refine hs_sipush (v := (552 : Int32)) dX9_undo_34 (by decide) ?_
    refine hs_icmp_ge (tgt := 67) dX9_undo_37 (by decide) (fun hc1 => ?_) (fun hc1 => ?_)
    · rw [if_pos hc1] at h
      refine hs_aload_n dX9_undo_67 0 rfl ?_
      obtain ⟨r2, h2, h⟩ := hb_bind h
      refine hs_getI dX9_undo_68 lkX9_67 rfl h2 ?_
      obtain rfl := Option.some.inj h
      exact hs_ireturn dX9_undo_71 rfl (by rfl) (fun _ => rfl)
    · rw [if_neg hc1] at h
      refine hs_aload_n dX9_undo_40 0 rfl ?_
      obtain ⟨r3, h3, h⟩ := hb_bind h
      refine hs_getR dX9_undo_41 lkX9_7 rfl h3 ?_
      refine hs_iload_n dX9_undo_44 1 rfl ?_
      refine hs_aload_n dX9_undo_45 0 rfl ?_
      obtain ⟨r4, h4, h⟩ := hb_bind h
      refine hs_getR dX9_undo_46 lkX9_13 rfl h4 ?_
      refine hs_sipush (v := (552 : Int32)) dX9_undo_49 (by decide) ?_
      refine hs_aload_n dX9_undo_52 0 rfl ?_
      obtain ⟨r5, h5, h⟩ := hb_bind h
      refine hs_getI dX9_undo_53 lkX9_67 rfl h5 ?_
      refine hs_imul dX9_undo_56 ?_
      refine hs_iload_n dX9_undo_57 1 rfl ?_
      refine hs_iadd dX9_undo_58 ?_
      obtain ⟨r6, h6, h⟩ := hb_bind h
      refine hs_iald dX9_undo_59 h6 ?_
      obtain ⟨r7, h7, h⟩ := hb_bind h
      refine hs_iast dX9_undo_60 h7 ?_
      refine hs_iinc2 (k := (1 : Int32)) (lv' := [(1, .int (x1 + (1 : Int32))), (0, .ref x0)]) dX9_undo_61 (by decide) 1 rfl (by decide) rfl ?_
      refine hs_goto (tgt := 33) dX9_undo_64 (by decide) ?_
      refine hs_sub (lv' := [(0, .ref x0), (1, .int (x1 + (1 : Int32)))]) [1, 0] rfl ?_
      exact ih _ _ _ _ h
set_option maxHeartbeats 4000000 in
set_option maxRecDepth 20000 in
theorem c_X9_undo_b13 {G : hb_G} {l : Launch} {z : Bool}  {x0 : Nat} {s0 : Nat} {s1 : Int32} {σ : hb_M} {r : (Int32 × hb_M)} (h : f_X9_undo_b13 x0 s0 s1 σ = some r) : hb_T G l z mX9_undo 1 0 0 13 [(0, .ref x0)] [.int s1, .ref s0] σ (.inl (some (.int r.1)), r.2) := by
  unfold f_X9_undo_b13 at h
  obtain ⟨r1, h1, h⟩ := hb_bind h
  obtain ⟨h1, nf1, hb1⟩ := hb_on_at h1
  refine hs_callVi (μ' := mX9_refused) (mc := 0) (ms := 0) (rc := 0) (rs := 0) (As := [.int s1]) (rest := []) (ci := 9) dX9_undo_13 lmX9_74 okX9_refused rfl (by decide) rfl (Nat.le_of_ble_eq_true rfl) rfl hb1 (c_X9_refused h1) ?_
  refine hs_if_eq (tgt := 21) dX9_undo_16 (by decide) (fun hc2 => ?_) (fun hc2 => ?_)
  · rw [if_pos hc2] at h
    refine hs_aload_n dX9_undo_21 0 rfl ?_
    refine hs_dup dX9_undo_22 rfl ?_
    obtain ⟨r3, h3, h⟩ := hb_bind h
    refine hs_getI dX9_undo_23 lkX9_67 rfl h3 ?_
    refine hs_iconst (v := (1 : Int32)) dX9_undo_26 (by decide) ?_
    refine hs_isub dX9_undo_27 ?_
    obtain ⟨r4, h4, h⟩ := hb_bind h
    refine hs_putI dX9_undo_28 lpX9_undo_67 rfl h4 ?_
    refine hs_iconst (v := (0 : Int32)) dX9_undo_31 (by decide) ?_
    refine hs_istore_n (lv' := [(1, .int (0 : Int32)), (0, .ref x0)]) dX9_undo_32 (by decide) rfl ?_
    refine hs_sub (lv' := [(0, .ref x0), (1, .int (0 : Int32))]) [1, 0] rfl ?_
    exact c_X9_undo_b33 hb_FU _ _ _ _ h
  · rw [if_neg hc2] at h
    refine hs_iconst (v := (0 : Int32)) dX9_undo_19 (by decide) ?_
    obtain rfl := Option.some.inj h
    exact hs_ireturn dX9_undo_20 rfl (by rfl) (fun _ => rfl)
set_option maxHeartbeats 4000000 in
set_option maxRecDepth 20000 in
theorem c_X9_undo {G : hb_G} {l : Launch} {z : Bool} {x0 : Nat} {σ : hb_M} {r : (Int32 × hb_M)} (h : f_X9_undo x0 σ = some r) : hb_Call G l z 1 0 0 mX9_undo [.ref x0] σ (.inl (some (.int r.1)), r.2) := by
  refine hb_met (by decide) (Nat.le_of_ble_eq_true rfl) ?_
  unfold f_X9_undo at h
  refine hs_aload_n dX9_undo_0 0 rfl ?_
  refine hs_aload_n dX9_undo_1 0 rfl ?_
  obtain ⟨r1, h1, h⟩ := hb_bind h
  refine hs_getI dX9_undo_2 lkX9_67 rfl h1 ?_
  refine hs_if_ne (tgt := 12) dX9_undo_5 (by decide) (fun hc2 => ?_) (fun hc2 => ?_)
  · rw [if_neg hc2] at h
    refine hs_iconst (v := (0 : Int32)) dX9_undo_12 (by decide) ?_
    refine hs_sub (lv' := [(0, .ref x0)]) [0] rfl ?_
    exact c_X9_undo_b13 h
  · rw [if_pos hc2] at h
    refine hs_iconst (v := (1 : Int32)) dX9_undo_8 (by decide) ?_
    refine hs_goto (tgt := 13) dX9_undo_9 (by decide) ?_
    refine hs_sub (lv' := [(0, .ref x0)]) [0] rfl ?_
    exact c_X9_undo_b13 h
def mX9_isClass : hb_Y := (yX9_isClass, cX9_isClass, 2, (some .boolean), [], false)
theorem okX9_isClass : hb_okV mX9_isClass 1 := ⟨⟨hb_w 11 (by decide +kernel) (by decide +kernel), hb_w 1431 (by decide +kernel) (by decide +kernel), ⟨by decide +kernel, by decide +kernel, by decide +kernel⟩, by decide⟩, hb_w 1430 (by decide +kernel) (by decide +kernel), hb_wp (q := (yX9_isClass, 29)) 35 (by decide +kernel) (by decide +kernel)⟩
set_option maxHeartbeats 4000000 in
set_option maxRecDepth 20000 in
theorem c_X9_isClass {G : hb_G} {l : Launch} {z : Bool} {x0 : Nat} {x1 : Int32} {σ : hb_M} {r : (Int32 × hb_M)} (h : f_X9_isClass x0 x1 σ = some r) : hb_Call G l z 1 0 0 mX9_isClass [.ref x0, .int x1] σ (.inl (some (.int r.1)), r.2) := by
  refine hb_met (by decide) (Nat.le_of_ble_eq_true rfl) ?_
  unfold f_X9_isClass at h
  refine hs_iload_n dX9_isClass_0 1 rfl ?_
  refine hs_iconst (v := (0 : Int32)) dX9_isClass_1 (by decide) ?_
  refine hs_aload_n dX9_isClass_2 0 rfl ?_
  obtain ⟨r1, h1, h⟩ := hb_bind h
  refine hs_getR dX9_isClass_3 lkX9_7 rfl h1 ?_
  refine hs_iconst (v := (0 : Int32)) dX9_isClass_6 (by decide) ?_
  obtain ⟨r2, h2, h⟩ := hb_bind h
  refine hs_iald dX9_isClass_7 h2 ?_
  refine hs_iconst (v := (1 : Int32)) dX9_isClass_8 (by decide) ?_
  refine hs_isub dX9_isClass_9 ?_
  obtain ⟨r3, h3, h⟩ := hb_bind h
  refine hs_callSi (μ' := mX9_within) (mc := 0) (ms := 0) (rc := 0) (rs := 0) (As := [.int x1, .int (0 : Int32), .int (r2 - (1 : Int32))]) (rest := []) dX9_isClass_10 lmX9_78 okX9_within rfl (by decide) rfl (Nat.le_of_ble_eq_true rfl) (c_X9_within h3) ?_
  obtain ⟨rfl, hn⟩ := hb_zr_at h
  exact hs_ireturn dX9_isClass_13 rfl hn (fun _ => rfl)
def mX9_fieldsOf : hb_Y := (yX9_fieldsOf, cX9_fieldsOf, 4, (some .int), [], false)
theorem okX9_fieldsOf : hb_okV mX9_fieldsOf 1 := ⟨⟨hb_w 11 (by decide +kernel) (by decide +kernel), hb_w 1438 (by decide +kernel) (by decide +kernel), ⟨by decide +kernel, by decide +kernel, by decide +kernel⟩, by decide⟩, hb_w 1437 (by decide +kernel) (by decide +kernel), hb_wp (q := (yX9_fieldsOf, 29)) 36 (by decide +kernel) (by decide +kernel)⟩
set_option maxHeartbeats 4000000 in
set_option maxRecDepth 20000 in
theorem c_X9_fieldsOf_b4 {G : hb_G} {l : Launch} {z : Bool} : ∀ (n : Nat) (x0 : Nat) (x2 : Int32) (x3 : Int32) (σ : hb_M) (r : (Int32 × hb_M)), f_X9_fieldsOf_b4 n x0 x2 x3 σ = some r → hb_T G l z mX9_fieldsOf 0 0 0 4 [(0, .ref x0), (2, .int x2), (3, .int x3)] [] σ (.inl (some (.int r.1)), r.2) := by
  intro n
  induction n with
  | zero =>
    intro x0 x2 x3 σ r h
    cases h
  | succ n ih =>
    intro x0 x2 x3 σ r h
    rw [f_X9_fieldsOf_b4] at h
    refine hs_iload_n dX9_fieldsOf_4 2 rfl ?_
    refine hs_iconst (v := (-1 : Int32)) dX9_fieldsOf_5 (by decide) ?_
    refine hs_icmp_eq (tgt := 33) dX9_fieldsOf_6 (by decide) (fun hc1 => ?_) (fun hc1 => ?_)
    · rw [if_pos hc1] at h
      refine hs_iload_n dX9_fieldsOf_33 1 rfl ?_
      obtain rfl := Option.some.inj h
      exact hs_ireturn dX9_fieldsOf_34 rfl (by rfl) (fun _ => rfl)
    · rw [if_neg hc1] at h
      refine hs_iload_n dX9_fieldsOf_9 1 rfl ?_
      refine hs_aload_n dX9_fieldsOf_10 0 rfl ?_
      obtain ⟨r2, h2, h⟩ := hb_bind h
      refine hs_getR dX9_fieldsOf_11 lkX9_7 rfl h2 ?_
      refine hs_bipush (v := (11 : Int32)) dX9_fieldsOf_14 (by decide) ?_
      refine hs_iload_n dX9_fieldsOf_16 2 rfl ?_
      refine hs_iadd dX9_fieldsOf_17 ?_
      obtain ⟨r3, h3, h⟩ := hb_bind h
      refine hs_iald dX9_fieldsOf_18 h3 ?_
      refine hs_iadd dX9_fieldsOf_19 ?_
      refine hs_istore_n (lv' := [(2, .int (x2 + r3)), (0, .ref x0), (3, .int x3)]) dX9_fieldsOf_20 (by decide) rfl ?_
      refine hs_aload_n dX9_fieldsOf_21 1 rfl ?_
      obtain ⟨r4, h4, h⟩ := hb_bind h
      refine hs_getR dX9_fieldsOf_22 lkX9_7 rfl h4 ?_
      refine hs_iconst (v := (1 : Int32)) dX9_fieldsOf_25 (by decide) ?_
      refine hs_iload_n dX9_fieldsOf_26 2 rfl ?_
      refine hs_iadd dX9_fieldsOf_27 ?_
      obtain ⟨r5, h5, h⟩ := hb_bind h
      refine hs_iald dX9_fieldsOf_28 h5 ?_
      refine hs_istore_n (lv' := [(3, .int r5), (2, .int (x2 + r3)), (0, .ref x0)]) dX9_fieldsOf_29 (by decide) rfl ?_
      refine hs_goto (tgt := 4) dX9_fieldsOf_30 (by decide) ?_
      refine hs_sub (lv' := [(0, .ref x0), (2, .int (x2 + r3)), (3, .int r5)]) [2, 1, 0] rfl ?_
      exact ih _ _ _ _ _ h
set_option maxHeartbeats 4000000 in
set_option maxRecDepth 20000 in
theorem c_X9_fieldsOf {G : hb_G} {l : Launch} {z : Bool} {x0 : Nat} {x1 : Int32} {σ : hb_M} {r : (Int32 × hb_M)} (h : f_X9_fieldsOf x0 x1 σ = some r) : hb_Call G l z 0 0 0 mX9_fieldsOf [.ref x0, .int x1] σ (.inl (some (.int r.1)), r.2) := by
  refine hb_met (by decide) (Nat.le_of_ble_eq_true rfl) ?_
  unfold f_X9_fieldsOf at h
  refine hs_iconst (v := (0 : Int32)) dX9_fieldsOf_0 (by decide) ?_
  refine hs_istore_n (lv' := [(2, .int (0 : Int32)), (0, .ref x0), (1, .int x1)]) dX9_fieldsOf_1 (by decide) rfl ?_
  refine hs_iload_n dX9_fieldsOf_2 2 rfl ?_
  refine hs_istore_n (lv' := [(3, .int x1), (2, .int (0 : Int32)), (0, .ref x0), (1, .int x1)]) dX9_fieldsOf_3 (by decide) rfl ?_
  refine hs_sub (lv' := [(0, .ref x0), (2, .int (0 : Int32)), (3, .int x1)]) [2, 1, 0] rfl ?_
  exact c_X9_fieldsOf_b4 hb_FU _ _ _ _ _ h
def mX9_sizeOfClass : hb_Y := (yX9_sizeOfClass, cX9_sizeOfClass, 4, (some .int), [], false)
theorem okX9_sizeOfClass : hb_okV mX9_sizeOfClass 1 := ⟨⟨hb_w 11 (by decide +kernel) (by decide +kernel), hb_w 1462 (by decide +kernel) (by decide +kernel), ⟨by decide +kernel, by decide +kernel, by decide +kernel⟩, by decide⟩, hb_w 1461 (by decide +kernel) (by decide +kernel), hb_wp (q := (yX9_sizeOfClass, 29)) 40 (by decide +kernel) (by decide +kernel)⟩
set_option maxHeartbeats 4000000 in
set_option maxRecDepth 20000 in
theorem c_X9_sizeOfClass_b13 {G : hb_G} {l : Launch} {z : Bool} : ∀ (n : Nat) (x0 : Nat) (x2 : Int32) (x3 : Int32) (σ : hb_M) (r : (Int32 × hb_M)), f_X9_sizeOfClass_b13 n x0 x2 x3 σ = some r → hb_T G l z mX9_sizeOfClass 1 0 0 13 [(0, .ref x0), (2, .int x2), (3, .int x3)] [] σ (.inl (some (.int r.1)), r.2) := by
  intro n
  induction n with
  | zero =>
    intro x0 x2 x3 σ r h
    cases h
  | succ n ih =>
    intro x0 x2 x3 σ r h
    rw [f_X9_sizeOfClass_b13] at h
    refine hs_iload_n dX9_sizeOfClass_13 2 rfl ?_
    refine hs_iconst (v := (-1 : Int32)) dX9_sizeOfClass_14 (by decide) ?_
    refine hs_icmp_eq (tgt := 42) dX9_sizeOfClass_15 (by decide) (fun hc1 => ?_) (fun hc1 => ?_)
    · rw [if_pos hc1] at h
      refine hs_iload_n dX9_sizeOfClass_42 1 rfl ?_
      refine hs_bipush (v := (7 : Int32)) dX9_sizeOfClass_43 (by decide) ?_
      refine hs_iadd dX9_sizeOfClass_45 ?_
      refine hs_bipush (v := (8 : Int32)) dX9_sizeOfClass_46 (by decide) ?_
      refine hs_idiv dX9_sizeOfClass_48 (by decide) ?_
      refine hs_bipush (v := (8 : Int32)) dX9_sizeOfClass_49 (by decide) ?_
      refine hs_imul dX9_sizeOfClass_51 ?_
      obtain rfl := Option.some.inj h
      exact hs_ireturn dX9_sizeOfClass_52 rfl (by rfl) (fun _ => rfl)
    · rw [if_neg hc1] at h
      refine hs_iload_n dX9_sizeOfClass_18 1 rfl ?_
      refine hs_aload_n dX9_sizeOfClass_19 0 rfl ?_
      obtain ⟨r2, h2, h⟩ := hb_bind h
      refine hs_getR dX9_sizeOfClass_20 lkX9_7 rfl h2 ?_
      refine hs_bipush (v := (21 : Int32)) dX9_sizeOfClass_23 (by decide) ?_
      refine hs_iload_n dX9_sizeOfClass_25 2 rfl ?_
      refine hs_iadd dX9_sizeOfClass_26 ?_
      obtain ⟨r3, h3, h⟩ := hb_bind h
      refine hs_iald dX9_sizeOfClass_27 h3 ?_
      refine hs_iadd dX9_sizeOfClass_28 ?_
      refine hs_istore_n (lv' := [(2, .int (x2 + r3)), (0, .ref x0), (3, .int x3)]) dX9_sizeOfClass_29 (by decide) rfl ?_
      refine hs_aload_n dX9_sizeOfClass_30 1 rfl ?_
      obtain ⟨r4, h4, h⟩ := hb_bind h
      refine hs_getR dX9_sizeOfClass_31 lkX9_7 rfl h4 ?_
      refine hs_iconst (v := (1 : Int32)) dX9_sizeOfClass_34 (by decide) ?_
      refine hs_iload_n dX9_sizeOfClass_35 2 rfl ?_
      refine hs_iadd dX9_sizeOfClass_36 ?_
      obtain ⟨r5, h5, h⟩ := hb_bind h
      refine hs_iald dX9_sizeOfClass_37 h5 ?_
      refine hs_istore_n (lv' := [(3, .int r5), (2, .int (x2 + r3)), (0, .ref x0)]) dX9_sizeOfClass_38 (by decide) rfl ?_
      refine hs_goto (tgt := 13) dX9_sizeOfClass_39 (by decide) ?_
      refine hs_sub (lv' := [(0, .ref x0), (2, .int (x2 + r3)), (3, .int r5)]) [2, 1, 0] rfl ?_
      exact ih _ _ _ _ _ h
set_option maxHeartbeats 4000000 in
set_option maxRecDepth 20000 in
theorem c_X9_sizeOfClass {G : hb_G} {l : Launch} {z : Bool} {x0 : Nat} {x1 : Int32} {σ : hb_M} {r : (Int32 × hb_M)} (h : f_X9_sizeOfClass x0 x1 σ = some r) : hb_Call G l z 1 0 0 mX9_sizeOfClass [.ref x0, .int x1] σ (.inl (some (.int r.1)), r.2) := by
  refine hb_met (by decide) (Nat.le_of_ble_eq_true rfl) ?_
  unfold f_X9_sizeOfClass at h
  refine hs_bipush (v := (12 : Int32)) dX9_sizeOfClass_0 (by decide) ?_
  refine hs_iconst (v := (4 : Int32)) dX9_sizeOfClass_2 (by decide) ?_
  refine hs_aload_n dX9_sizeOfClass_3 0 rfl ?_
  refine hs_iload_n dX9_sizeOfClass_4 1 rfl ?_
  obtain ⟨r1, h1, h⟩ := hb_bind h
  obtain ⟨h1, nf1, hb1⟩ := hb_on_at h1
  refine hs_callVi (μ' := mX9_fieldsOf) (mc := 0) (ms := 0) (rc := 0) (rs := 0) (As := [.int x1]) (rest := [.int (4 : Int32), .int (12 : Int32)]) (ci := 9) dX9_sizeOfClass_5 lmX9_82 okX9_fieldsOf rfl (by decide) rfl (Nat.le_of_ble_eq_true rfl) rfl hb1 (c_X9_fieldsOf h1) ?_
  refine hs_imul dX9_sizeOfClass_8 ?_
  refine hs_iadd dX9_sizeOfClass_9 ?_
  refine hs_istore_n (lv' := [(2, .int ((12 : Int32) + ((4 : Int32) * r1.1))), (0, .ref x0), (1, .int x1)]) dX9_sizeOfClass_10 (by decide) rfl ?_
  refine hs_iload_n dX9_sizeOfClass_11 2 rfl ?_
  refine hs_istore_n (lv' := [(3, .int x1), (2, .int ((12 : Int32) + ((4 : Int32) * r1.1))), (0, .ref x0), (1, .int x1)]) dX9_sizeOfClass_12 (by decide) rfl ?_
  refine hs_sub (lv' := [(0, .ref x0), (2, .int ((12 : Int32) + ((4 : Int32) * r1.1))), (3, .int x1)]) [2, 1, 0] rfl ?_
  exact c_X9_sizeOfClass_b13 hb_FU _ _ _ _ _ h
def mX9_isBelow : hb_Y := (yX9_isBelow, cX9_isBelow, 5, (some .boolean), [], false)
theorem okX9_isBelow : hb_okV mX9_isBelow 2 := ⟨⟨hb_w 11 (by decide +kernel) (by decide +kernel), hb_w 1470 (by decide +kernel) (by decide +kernel), ⟨by decide +kernel, by decide +kernel, by decide +kernel⟩, by decide⟩, hb_w 1469 (by decide +kernel) (by decide +kernel), hb_wp (q := (yX9_isBelow, 29)) 41 (by decide +kernel) (by decide +kernel)⟩
set_option maxHeartbeats 4000000 in
set_option maxRecDepth 20000 in
theorem c_X9_isBelow_b26 {G : hb_G} {l : Launch} {z : Bool}  (k5 : Nat → Int32 → Int32 → Int32 → hb_M → Option (Int32 × hb_M)) (hk5 : ∀ (x0 : Nat) (x2 : Int32) (x3 : Int32) (x4 : Int32) (σ : hb_M) (r : (Int32 × hb_M)), k5 x0 x2 x3 x4 σ = some r → hb_T G l z mX9_isBelow 0 0 0 5 [(0, .ref x0), (2, .int x2), (3, .int x3), (4, .int x4)] [] σ (.inl (some (.int r.1)), r.2))  {x0 : Nat} {x2 : Int32} {x4 : Int32} {s0 : Int32} {σ : hb_M} {r : (Int32 × hb_M)} (h : f_X9_isBelow_b26 k5 x0 x2 x4 s0 σ = some r) : hb_T G l z mX9_isBelow 0 0 0 26 [(0, .ref x0), (2, .int x2), (4, .int x4)] [.int s0] σ (.inl (some (.int r.1)), r.2) := by
  unfold f_X9_isBelow_b26 at h
  refine hs_istore_n (lv' := [(3, .int s0), (0, .ref x0), (2, .int x2), (4, .int x4)]) dX9_isBelow_26 (by decide) rfl ?_
  refine hs_aload_n dX9_isBelow_27 1 rfl ?_
  obtain ⟨r1, h1, h⟩ := hb_bind h
  refine hs_getR dX9_isBelow_28 lkX9_7 rfl h1 ?_
  refine hs_iconst (v := (1 : Int32)) dX9_isBelow_31 (by decide) ?_
  refine hs_iload dX9_isBelow_32 3 rfl ?_
  refine hs_iadd dX9_isBelow_34 ?_
  obtain ⟨r2, h2, h⟩ := hb_bind h
  refine hs_iald dX9_isBelow_35 h2 ?_
  refine hs_istore (lv' := [(4, .int r2), (3, .int s0), (0, .ref x0), (2, .int x2)]) dX9_isBelow_36 (by decide) rfl ?_
  refine hs_goto (tgt := 5) dX9_isBelow_38 (by decide) ?_
  refine hs_sub (lv' := [(0, .ref x0), (2, .int x2), (3, .int s0), (4, .int r2)]) [2, 3, 1, 0] rfl ?_
  exact hk5 _ _ _ _ _ _ h
set_option maxHeartbeats 4000000 in
set_option maxRecDepth 20000 in
theorem c_X9_isBelow_b21 {G : hb_G} {l : Launch} {z : Bool}  (k5 : Nat → Int32 → Int32 → Int32 → hb_M → Option (Int32 × hb_M)) (hk5 : ∀ (x0 : Nat) (x2 : Int32) (x3 : Int32) (x4 : Int32) (σ : hb_M) (r : (Int32 × hb_M)), k5 x0 x2 x3 x4 σ = some r → hb_T G l z mX9_isBelow 0 0 0 5 [(0, .ref x0), (2, .int x2), (3, .int x3), (4, .int x4)] [] σ (.inl (some (.int r.1)), r.2))  {x0 : Nat} {x2 : Int32} {x4 : Int32} {σ : hb_M} {r : (Int32 × hb_M)} (h : f_X9_isBelow_b21 k5 x0 x2 x4 σ = some r) : hb_T G l z mX9_isBelow 0 0 0 21 [(0, .ref x0), (2, .int x2), (4, .int x4)] [] σ (.inl (some (.int r.1)), r.2) := by
  unfold f_X9_isBelow_b21 at h
  refine hs_iconst (v := (1 : Int32)) dX9_isBelow_21 (by decide) ?_
  refine hs_goto (tgt := 26) dX9_isBelow_22 (by decide) ?_
  refine hs_sub (lv' := [(0, .ref x0), (2, .int x2), (4, .int x4)]) [0, 1, 2] rfl ?_
  exact c_X9_isBelow_b26 k5 hk5 h
set_option maxHeartbeats 4000000 in
set_option maxRecDepth 20000 in
theorem c_X9_isBelow_b5 {G : hb_G} {l : Launch} {z : Bool} : ∀ (n : Nat) (x0 : Nat) (x2 : Int32) (x3 : Int32) (x4 : Int32) (σ : hb_M) (r : (Int32 × hb_M)), f_X9_isBelow_b5 n x0 x2 x3 x4 σ = some r → hb_T G l z mX9_isBelow 0 0 0 5 [(0, .ref x0), (2, .int x2), (3, .int x3), (4, .int x4)] [] σ (.inl (some (.int r.1)), r.2) := by
  intro n
  induction n with
  | zero =>
    intro x0 x2 x3 x4 σ r h
    cases h
  | succ n ih =>
    intro x0 x2 x3 x4 σ r h
    rw [f_X9_isBelow_b5] at h
    refine hs_iload dX9_isBelow_5 3 rfl ?_
    refine hs_iconst (v := (-1 : Int32)) dX9_isBelow_7 (by decide) ?_
    refine hs_icmp_eq (tgt := 41) dX9_isBelow_8 (by decide) (fun hc1 => ?_) (fun hc1 => ?_)
    · rw [if_pos hc1] at h
      refine hs_iload_n dX9_isBelow_41 2 rfl ?_
      obtain ⟨rfl, hn⟩ := hb_zr_at h
      exact hs_ireturn dX9_isBelow_42 rfl hn (fun _ => rfl)
    · rw [if_neg hc1] at h
      refine hs_iload_n dX9_isBelow_11 2 rfl ?_
      refine hs_if_ne (tgt := 21) dX9_isBelow_12 (by decide) (fun hc2 => ?_) (fun hc2 => ?_)
      · rw [if_neg hc2] at h
        refine hs_sub (lv' := [(0, .ref x0), (2, .int x2), (4, .int x4)]) [0, 1, 3] rfl ?_
        exact c_X9_isBelow_b21 (f_X9_isBelow_b5 n) ih h
      · rw [if_pos hc2] at h
        refine hs_iload dX9_isBelow_15 3 rfl ?_
        refine hs_iload_n dX9_isBelow_17 1 rfl ?_
        refine hs_icmp_ne (tgt := 25) dX9_isBelow_18 (by decide) (fun hc3 => ?_) (fun hc3 => ?_)
        · rw [if_neg hc3] at h
          refine hs_iconst (v := (0 : Int32)) dX9_isBelow_25 (by decide) ?_
          refine hs_sub (lv' := [(0, .ref x0), (2, .int x2), (4, .int x4)]) [0, 1, 3] rfl ?_
          exact c_X9_isBelow_b26 (f_X9_isBelow_b5 n) ih h
        · rw [if_pos hc3] at h
          refine hs_sub (lv' := [(0, .ref x0), (2, .int x2), (4, .int x4)]) [0, 1, 3] rfl ?_
          exact c_X9_isBelow_b21 (f_X9_isBelow_b5 n) ih h
set_option maxHeartbeats 4000000 in
set_option maxRecDepth 20000 in
theorem c_X9_isBelow {G : hb_G} {l : Launch} {z : Bool} {x0 : Nat} {x1 : Int32} {x2 : Int32} {σ : hb_M} {r : (Int32 × hb_M)} (h : f_X9_isBelow x0 x1 x2 σ = some r) : hb_Call G l z 0 0 0 mX9_isBelow [.ref x0, .int x1, .int x2] σ (.inl (some (.int r.1)), r.2) := by
  refine hb_met (by decide) (Nat.le_of_ble_eq_true rfl) ?_
  unfold f_X9_isBelow at h
  refine hs_iconst (v := (0 : Int32)) dX9_isBelow_0 (by decide) ?_
  refine hs_istore_n (lv' := [(3, .int (0 : Int32)), (0, .ref x0), (1, .int x1), (2, .int x2)]) dX9_isBelow_1 (by decide) rfl ?_
  refine hs_iload_n dX9_isBelow_2 2 rfl ?_
  refine hs_istore (lv' := [(4, .int x1), (3, .int (0 : Int32)), (0, .ref x0), (1, .int x1), (2, .int x2)]) dX9_isBelow_3 (by decide) rfl ?_
  refine hs_sub (lv' := [(0, .ref x0), (2, .int x2), (3, .int (0 : Int32)), (4, .int x1)]) [2, 4, 1, 0] rfl ?_
  exact c_X9_isBelow_b5 hb_FU _ _ _ _ _ _ h
def mX9_defineClass : hb_Y := (yX9_defineClass, cX9_defineClass, 7, (some .int), [], false)
set_option maxHeartbeats 4000000 in
set_option maxRecDepth 20000 in
theorem c_X9_defineClass_b84 {G : hb_G} {l : Launch} {z : Bool}  {x0 : Nat} {x1 : Int32} {x2 : Int32} {x3 : Int32} {s0 : Nat} {s1 : Int32} {σ : hb_M} {r : (Int32 × hb_M)} (h : f_X9_defineClass_b84 x0 x1 x2 x3 s0 s1 σ = some r) : hb_T G l z mX9_defineClass 2 0 0 84 [(0, .ref x0), (1, .int x1), (2, .int x2), (3, .int x3)] [.int s1, .ref s0] σ (.inl (some (.int r.1)), r.2) := by
  unfold f_X9_defineClass_b84 at h
  obtain ⟨r1, h1, h⟩ := hb_bind h
  obtain ⟨h1, nf1, hb1⟩ := hb_on_at h1
  refine hs_callVi (μ' := mX9_refused) (mc := 0) (ms := 0) (rc := 0) (rs := 0) (As := [.int s1]) (rest := []) (ci := 9) dX9_defineClass_84 lmX9_74 okX9_refused rfl (by decide) rfl (Nat.le_of_ble_eq_true rfl) rfl hb1 (c_X9_refused h1) ?_
  refine hs_if_eq (tgt := 92) dX9_defineClass_87 (by decide) (fun hc2 => ?_) (fun hc2 => ?_)
  · rw [if_pos hc2] at h
    refine hs_aload_n dX9_defineClass_92 0 rfl ?_
    obtain ⟨r3, h3, h⟩ := hb_bind h
    obtain ⟨h3, nf3, hb3⟩ := hb_on_at h3
    refine hs_callVv (μ' := mX9_saves) (mc := 0) (ms := 0) (rc := 0) (rs := 0) (As := []) (rest := []) (ci := 9) dX9_defineClass_93 lmX9_89 okX9_saves rfl (by decide) rfl (Nat.le_of_ble_eq_true rfl) rfl hb3 (c_X9_saves h3) ?_
    refine hs_aload_n dX9_defineClass_96 0 rfl ?_
    obtain ⟨r4, h4, h⟩ := hb_bind h
    refine hs_getR dX9_defineClass_97 lkX9_7 rfl h4 ?_
    refine hs_iconst (v := (0 : Int32)) dX9_defineClass_100 (by decide) ?_
    obtain ⟨r5, h5, h⟩ := hb_bind h
    refine hs_iald dX9_defineClass_101 h5 ?_
    refine hs_istore (lv' := [(6, .int r5), (0, .ref x0), (1, .int x1), (2, .int x2), (3, .int x3)]) dX9_defineClass_102 (by decide) rfl ?_
    refine hs_aload_n dX9_defineClass_104 1 rfl ?_
    obtain ⟨r6, h6, h⟩ := hb_bind h
    refine hs_getR dX9_defineClass_105 lkX9_7 rfl h6 ?_
    refine hs_iconst (v := (0 : Int32)) dX9_defineClass_108 (by decide) ?_
    refine hs_dup2 dX9_defineClass_109 rfl rfl ?_
    obtain ⟨r7, h7, h⟩ := hb_bind h
    refine hs_iald dX9_defineClass_110 h7 ?_
    refine hs_iconst (v := (1 : Int32)) dX9_defineClass_111 (by decide) ?_
    refine hs_iadd dX9_defineClass_112 ?_
    obtain ⟨r8, h8, h⟩ := hb_bind h
    refine hs_iast dX9_defineClass_113 h8 ?_
    refine hs_aload_n dX9_defineClass_114 1 rfl ?_
    obtain ⟨r9, h9, h⟩ := hb_bind h
    refine hs_getR dX9_defineClass_115 lkX9_7 rfl h9 ?_
    refine hs_iconst (v := (1 : Int32)) dX9_defineClass_118 (by decide) ?_
    refine hs_iload dX9_defineClass_119 0 rfl ?_
    refine hs_iadd dX9_defineClass_121 ?_
    refine hs_iload_n dX9_defineClass_122 2 rfl ?_
    obtain ⟨r10, h10, h⟩ := hb_bind h
    refine hs_iast dX9_defineClass_123 h10 ?_
    refine hs_aload_n dX9_defineClass_124 1 rfl ?_
    obtain ⟨r11, h11, h⟩ := hb_bind h
    refine hs_getR dX9_defineClass_125 lkX9_7 rfl h11 ?_
    refine hs_bipush (v := (11 : Int32)) dX9_defineClass_128 (by decide) ?_
    refine hs_iload dX9_defineClass_130 0 rfl ?_
    refine hs_iadd dX9_defineClass_132 ?_
    refine hs_iload_n dX9_defineClass_133 3 rfl ?_
    obtain ⟨r12, h12, h⟩ := hb_bind h
    refine hs_iast dX9_defineClass_134 h12 ?_
    refine hs_aload_n dX9_defineClass_135 1 rfl ?_
    obtain ⟨r13, h13, h⟩ := hb_bind h
    refine hs_getR dX9_defineClass_136 lkX9_7 rfl h13 ?_
    refine hs_bipush (v := (21 : Int32)) dX9_defineClass_139 (by decide) ?_
    refine hs_iload dX9_defineClass_141 0 rfl ?_
    refine hs_iadd dX9_defineClass_143 ?_
    refine hs_iload_n dX9_defineClass_144 4 rfl ?_
    obtain ⟨r14, h14, h⟩ := hb_bind h
    refine hs_iast dX9_defineClass_145 h14 ?_
    refine hs_iload dX9_defineClass_146 0 rfl ?_
    obtain rfl := Option.some.inj h
    exact hs_ireturn dX9_defineClass_148 rfl (by rfl) (fun _ => rfl)
  · rw [if_neg hc2] at h
    refine hs_iconst (v := (0 : Int32)) dX9_defineClass_90 (by decide) ?_
    obtain rfl := Option.some.inj h
    exact hs_ireturn dX9_defineClass_91 rfl (by rfl) (fun _ => rfl)
set_option maxHeartbeats 4000000 in
set_option maxRecDepth 20000 in
theorem c_X9_defineClass_b47 {G : hb_G} {l : Launch} {z : Bool}  {x0 : Nat} {x1 : Int32} {x2 : Int32} {x3 : Int32} {x4 : Int32} {s0 : Int32} {σ : hb_M} {r : (Int32 × hb_M)} (h : f_X9_defineClass_b47 x0 x1 x2 x3 x4 s0 σ = some r) : hb_T G l z mX9_defineClass 2 0 0 47 [(0, .ref x0), (1, .int x1), (2, .int x2), (3, .int x3), (4, .int x4)] [.int s0] σ (.inl (some (.int r.1)), r.2) := by
  unfold f_X9_defineClass_b47 at h
  refine hs_istore (lv' := [(5, .int s0), (0, .ref x0), (1, .int x1), (2, .int x2), (3, .int x3), (4, .int x4)]) dX9_defineClass_47 (by decide) rfl ?_
  refine hs_aload_n dX9_defineClass_49 1 rfl ?_
  refine hs_iload dX9_defineClass_50 5 rfl ?_
  refine hs_if_ne (tgt := 59) dX9_defineClass_52 (by decide) (fun hc1 => ?_) (fun hc1 => ?_)
  · rw [if_neg hc1] at h
    refine hs_iload dX9_defineClass_59 0 rfl ?_
    refine hs_if_ne (tgt := 68) dX9_defineClass_61 (by decide) (fun hc2 => ?_) (fun hc2 => ?_)
    · rw [if_neg hc2] at h
      refine hs_aload_n dX9_defineClass_68 1 rfl ?_
      obtain ⟨r3, h3, h⟩ := hb_bind h
      refine hs_getR dX9_defineClass_69 lkX9_7 rfl h3 ?_
      refine hs_iconst (v := (0 : Int32)) dX9_defineClass_72 (by decide) ?_
      obtain ⟨r4, h4, h⟩ := hb_bind h
      refine hs_iald dX9_defineClass_73 h4 ?_
      refine hs_bipush (v := (10 : Int32)) dX9_defineClass_74 (by decide) ?_
      refine hs_icmp_ne (tgt := 83) dX9_defineClass_76 (by decide) (fun hc5 => ?_) (fun hc5 => ?_)
      · rw [if_neg hc5] at h
        refine hs_iconst (v := (0 : Int32)) dX9_defineClass_83 (by decide) ?_
        refine hs_sub (lv' := [(0, .ref x0), (1, .int x1), (2, .int x2), (3, .int x3)]) [1, 2, 3, 4] rfl ?_
        exact c_X9_defineClass_b84 h
      · rw [if_pos hc5] at h
        refine hs_iconst (v := (3 : Int32)) dX9_defineClass_79 (by decide) ?_
        refine hs_goto (tgt := 84) dX9_defineClass_80 (by decide) ?_
        refine hs_sub (lv' := [(0, .ref x0), (1, .int x1), (2, .int x2), (3, .int x3)]) [1, 2, 3, 4] rfl ?_
        exact c_X9_defineClass_b84 h
    · rw [if_pos hc2] at h
      refine hs_iconst (v := (2 : Int32)) dX9_defineClass_64 (by decide) ?_
      refine hs_goto (tgt := 84) dX9_defineClass_65 (by decide) ?_
      refine hs_sub (lv' := [(0, .ref x0), (1, .int x1), (2, .int x2), (3, .int x3)]) [1, 2, 3, 4] rfl ?_
      exact c_X9_defineClass_b84 h
  · rw [if_pos hc1] at h
    refine hs_iconst (v := (1 : Int32)) dX9_defineClass_55 (by decide) ?_
    refine hs_goto (tgt := 84) dX9_defineClass_56 (by decide) ?_
    refine hs_sub (lv' := [(0, .ref x0), (1, .int x1), (2, .int x2), (3, .int x3)]) [1, 2, 3, 4] rfl ?_
    exact c_X9_defineClass_b84 h
set_option maxHeartbeats 4000000 in
set_option maxRecDepth 20000 in
theorem c_X9_defineClass_b46 {G : hb_G} {l : Launch} {z : Bool}  {x0 : Nat} {x1 : Int32} {x2 : Int32} {x3 : Int32} {x4 : Int32} {σ : hb_M} {r : (Int32 × hb_M)} (h : f_X9_defineClass_b46 x0 x1 x2 x3 x4 σ = some r) : hb_T G l z mX9_defineClass 2 0 0 46 [(0, .ref x0), (1, .int x1), (2, .int x2), (3, .int x3), (4, .int x4)] [] σ (.inl (some (.int r.1)), r.2) := by
  unfold f_X9_defineClass_b46 at h
  refine hs_iconst (v := (0 : Int32)) dX9_defineClass_46 (by decide) ?_
  refine hs_sub (lv' := [(0, .ref x0), (1, .int x1), (2, .int x2), (3, .int x3), (4, .int x4)]) [0, 1, 2, 3, 4] rfl ?_
  exact c_X9_defineClass_b47 h
set_option maxHeartbeats 4000000 in
set_option maxRecDepth 20000 in
theorem c_X9_defineClass {G : hb_G} {l : Launch} {z : Bool} {x0 : Nat} {x1 : Int32} {x2 : Int32} {x3 : Int32} {σ : hb_M} {r : (Int32 × hb_M)} (h : f_X9_defineClass x0 x1 x2 x3 σ = some r) : hb_Call G l z 2 0 0 mX9_defineClass [.ref x0, .int x1, .int x2, .int x3] σ (.inl (some (.int r.1)), r.2) := by
  refine hb_met (by decide) (Nat.le_of_ble_eq_true rfl) ?_
  unfold f_X9_defineClass at h
  refine hs_aload_n dX9_defineClass_0 0 rfl ?_
  refine hs_iload_n dX9_defineClass_1 1 rfl ?_
  obtain ⟨r1, h1, h⟩ := hb_bind h
  obtain ⟨h1, nf1, hb1⟩ := hb_on_at h1
  refine hs_callVi (μ' := mX9_isClass) (mc := 0) (ms := 0) (rc := 0) (rs := 0) (As := [.int x1]) (rest := []) (ci := 9) dX9_defineClass_2 lmX9_86 okX9_isClass rfl (by decide) rfl (Nat.le_of_ble_eq_true rfl) rfl hb1 (c_X9_isClass h1) ?_
  refine hs_istore (lv' := [(4, .int r1.1), (0, .ref x0), (1, .int x1), (2, .int x2), (3, .int x3)]) dX9_defineClass_5 (by decide) rfl ?_
  refine hs_iload dX9_defineClass_7 0 rfl ?_
  refine hs_if_eq (tgt := 46) dX9_defineClass_9 (by decide) (fun hc2 => ?_) (fun hc2 => ?_)
  · rw [if_pos hc2] at h
    refine hs_sub (lv' := [(0, .ref x0), (1, .int x1), (2, .int x2), (3, .int x3), (4, .int r1.1)]) [1, 2, 3, 4, 0] rfl ?_
    exact c_X9_defineClass_b46 h
  · rw [if_neg hc2] at h
    refine hs_iload_n dX9_defineClass_12 3 rfl ?_
    refine hs_iconst (v := (0 : Int32)) dX9_defineClass_13 (by decide) ?_
    refine hs_iconst (v := (3 : Int32)) dX9_defineClass_14 (by decide) ?_
    obtain ⟨r3, h3, h⟩ := hb_bind h
    refine hs_callSi (μ' := mX9_within) (mc := 0) (ms := 0) (rc := 0) (rs := 0) (As := [.int x2, .int (0 : Int32), .int (3 : Int32)]) (rest := []) dX9_defineClass_15 lmX9_78 okX9_within rfl (by decide) rfl (Nat.le_of_ble_eq_true rfl) (c_X9_within h3) ?_
    refine hs_if_eq (tgt := 46) dX9_defineClass_18 (by decide) (fun hc4 => ?_) (fun hc4 => ?_)
    · rw [if_pos hc4] at h
      refine hs_sub (lv' := [(0, .ref x0), (1, .int x1), (2, .int x2), (3, .int x3), (4, .int r1.1)]) [1, 2, 3, 4, 0] rfl ?_
      exact c_X9_defineClass_b46 h
    · rw [if_neg hc4] at h
      refine hs_iload_n dX9_defineClass_21 4 rfl ?_
      refine hs_iconst (v := (0 : Int32)) dX9_defineClass_22 (by decide) ?_
      refine hs_bipush (v := (40 : Int32)) dX9_defineClass_23 (by decide) ?_
      obtain ⟨r5, h5, h⟩ := hb_bind h
      refine hs_callSi (μ' := mX9_within) (mc := 0) (ms := 0) (rc := 0) (rs := 0) (As := [.int x3, .int (0 : Int32), .int (40 : Int32)]) (rest := []) dX9_defineClass_25 lmX9_78 okX9_within rfl (by decide) rfl (Nat.le_of_ble_eq_true rfl) (c_X9_within h5) ?_
      refine hs_if_eq (tgt := 46) dX9_defineClass_28 (by decide) (fun hc6 => ?_) (fun hc6 => ?_)
      · rw [if_pos hc6] at h
        refine hs_sub (lv' := [(0, .ref x0), (1, .int x1), (2, .int x2), (3, .int x3), (4, .int r1.1)]) [1, 2, 3, 4, 0] rfl ?_
        exact c_X9_defineClass_b46 h
      · rw [if_neg hc6] at h
        refine hs_aload_n dX9_defineClass_31 1 rfl ?_
        refine hs_iload_n dX9_defineClass_32 2 rfl ?_
        obtain ⟨r7, h7, h⟩ := hb_bind h
        obtain ⟨h7, nf7, hb7⟩ := hb_on_at h7
        refine hs_callVi (μ' := mX9_fieldsOf) (mc := 0) (ms := 0) (rc := 0) (rs := 0) (As := [.int x1]) (rest := []) (ci := 9) dX9_defineClass_33 lmX9_82 okX9_fieldsOf rfl (by decide) rfl (Nat.le_of_ble_eq_true rfl) rfl hb7 (c_X9_fieldsOf h7) ?_
        refine hs_iload_n dX9_defineClass_36 3 rfl ?_
        refine hs_iadd dX9_defineClass_37 ?_
        refine hs_iconst (v := (5 : Int32)) dX9_defineClass_38 (by decide) ?_
        refine hs_icmp_gt (tgt := 46) dX9_defineClass_39 (by decide) (fun hc8 => ?_) (fun hc8 => ?_)
        · rw [if_pos hc8] at h
          refine hs_sub (lv' := [(0, .ref x0), (1, .int x1), (2, .int x2), (3, .int x3), (4, .int r1.1)]) [1, 2, 3, 4, 0] rfl ?_
          exact c_X9_defineClass_b46 h
        · rw [if_neg hc8] at h
          refine hs_iconst (v := (1 : Int32)) dX9_defineClass_42 (by decide) ?_
          refine hs_goto (tgt := 47) dX9_defineClass_43 (by decide) ?_
          refine hs_sub (lv' := [(0, .ref x0), (1, .int x1), (2, .int x2), (3, .int x3), (4, .int r1.1)]) [1, 2, 3, 4, 0] rfl ?_
          exact c_X9_defineClass_b47 h
def mX9_classes : hb_Y := (yX9_classes, cX9_classes, 1, (some .int), [], false)
set_option maxHeartbeats 4000000 in
set_option maxRecDepth 20000 in
theorem c_X9_classes {G : hb_G} {l : Launch} {z : Bool} {x0 : Nat} {σ : hb_M} {r : (Int32 × hb_M)} (h : f_X9_classes x0 σ = some r) : hb_Call G l z 0 0 0 mX9_classes [.ref x0] σ (.inl (some (.int r.1)), r.2) := by
  refine hb_met (by decide) (Nat.le_of_ble_eq_true rfl) ?_
  unfold f_X9_classes at h
  refine hs_aload_n dX9_classes_0 0 rfl ?_
  refine hs_iconst (v := (0 : Int32)) dX9_classes_1 (by decide) ?_
  obtain ⟨r1, h1, h⟩ := hb_bind h
  refine hs_putI dX9_classes_2 lpX9_classes_63 rfl h1 ?_
  refine hs_aload_n dX9_classes_5 0 rfl ?_
  obtain ⟨r2, h2, h⟩ := hb_bind h
  refine hs_getR dX9_classes_6 lkX9_7 rfl h2 ?_
  refine hs_iconst (v := (0 : Int32)) dX9_classes_9 (by decide) ?_
  obtain ⟨r3, h3, h⟩ := hb_bind h
  refine hs_iald dX9_classes_10 h3 ?_
  obtain rfl := Option.some.inj h
  exact hs_ireturn dX9_classes_11 rfl (by rfl) (fun _ => rfl)
def mX9_classBy : hb_Y := (yX9_classBy, cX9_classBy, 5, (some .int), [], false)
theorem okX9_classBy : hb_okV mX9_classBy 2 := ⟨⟨hb_w 11 (by decide +kernel) (by decide +kernel), hb_w 1458 (by decide +kernel) (by decide +kernel), ⟨by decide +kernel, by decide +kernel, by decide +kernel⟩, by decide⟩, hb_w 1457 (by decide +kernel) (by decide +kernel), hb_wp (q := (yX9_classBy, 29)) 39 (by decide +kernel) (by decide +kernel)⟩
set_option maxHeartbeats 4000000 in
set_option maxRecDepth 20000 in
theorem c_X9_classBy_b70 {G : hb_G} {l : Launch} {z : Bool}  (k40 : Nat → Int32 → Int32 → Int32 → hb_M → Option (Int32 × hb_M)) (hk40 : ∀ (x0 : Nat) (x1 : Int32) (x3 : Int32) (x4 : Int32) (σ : hb_M) (r : (Int32 × hb_M)), k40 x0 x1 x3 x4 σ = some r → hb_T G l z mX9_classBy 2 0 0 40 [(0, .ref x0), (1, .int x1), (3, .int x3), (4, .int x4)] [] σ (.inl (some (.int r.1)), r.2))  {x0 : Nat} {x1 : Int32} {x4 : Int32} {s0 : Int32} {s1 : Int32} {σ : hb_M} {r : (Int32 × hb_M)} (h : f_X9_classBy_b70 k40 x0 x1 x4 s0 s1 σ = some r) : hb_T G l z mX9_classBy 2 0 0 70 [(0, .ref x0), (1, .int x1), (4, .int x4)] [.int s1, .int s0] σ (.inl (some (.int r.1)), r.2) := by
  unfold f_X9_classBy_b70 at h
  refine hs_iadd dX9_classBy_70 ?_
  refine hs_istore_n (lv' := [(3, .int (s0 + s1)), (0, .ref x0), (1, .int x1), (4, .int x4)]) dX9_classBy_71 (by decide) rfl ?_
  refine hs_iinc2 (k := (1 : Int32)) (lv' := [(4, .int (x4 + (1 : Int32))), (3, .int (s0 + s1)), (0, .ref x0), (1, .int x1)]) dX9_classBy_72 (by decide) 3 rfl (by decide) rfl ?_
  refine hs_goto (tgt := 40) dX9_classBy_75 (by decide) ?_
  refine hs_sub (lv' := [(0, .ref x0), (1, .int x1), (3, .int (s0 + s1)), (4, .int (x4 + (1 : Int32)))]) [2, 3, 1, 0] rfl ?_
  exact hk40 _ _ _ _ _ _ h
set_option maxHeartbeats 4000000 in
set_option maxRecDepth 20000 in
theorem c_X9_classBy_b40 {G : hb_G} {l : Launch} {z : Bool} : ∀ (n : Nat) (x0 : Nat) (x1 : Int32) (x3 : Int32) (x4 : Int32) (σ : hb_M) (r : (Int32 × hb_M)), f_X9_classBy_b40 n x0 x1 x3 x4 σ = some r → hb_T G l z mX9_classBy 2 0 0 40 [(0, .ref x0), (1, .int x1), (3, .int x3), (4, .int x4)] [] σ (.inl (some (.int r.1)), r.2) := by
  intro n
  induction n with
  | zero =>
    intro x0 x1 x3 x4 σ r h
    cases h
  | succ n ih =>
    intro x0 x1 x3 x4 σ r h
    rw [f_X9_classBy_b40] at h
    refine hs_iload dX9_classBy_40 3 rfl ?_
    refine hs_aload_n dX9_classBy_42 0 rfl ?_
    obtain ⟨r1, h1, h⟩ := hb_bind h
    refine hs_getR dX9_classBy_43 lkX9_7 rfl h1 ?_
    refine hs_iconst (v := (0 : Int32)) dX9_classBy_46 (by decide) ?_
    obtain ⟨r2, h2, h⟩ := hb_bind h
    refine hs_iald dX9_classBy_47 h2 ?_
    refine hs_icmp_ge (tgt := 78) dX9_classBy_48 (by decide) (fun hc3 => ?_) (fun hc3 => ?_)
    · rw [if_pos hc3] at h
      refine hs_iload_n dX9_classBy_78 2 rfl ?_
      obtain rfl := Option.some.inj h
      exact hs_ireturn dX9_classBy_79 rfl (by rfl) (fun _ => rfl)
    · rw [if_neg hc3] at h
      refine hs_iload_n dX9_classBy_51 2 rfl ?_
      refine hs_aload_n dX9_classBy_52 0 rfl ?_
      obtain ⟨r4, h4, h⟩ := hb_bind h
      refine hs_getR dX9_classBy_53 lkX9_7 rfl h4 ?_
      refine hs_iconst (v := (1 : Int32)) dX9_classBy_56 (by decide) ?_
      refine hs_iload dX9_classBy_57 3 rfl ?_
      refine hs_iadd dX9_classBy_59 ?_
      obtain ⟨r5, h5, h⟩ := hb_bind h
      refine hs_iald dX9_classBy_60 h5 ?_
      refine hs_iload_n dX9_classBy_61 1 rfl ?_
      refine hs_icmp_ne (tgt := 69) dX9_classBy_62 (by decide) (fun hc6 => ?_) (fun hc6 => ?_)
      · rw [if_neg hc6] at h
        refine hs_iconst (v := (0 : Int32)) dX9_classBy_69 (by decide) ?_
        refine hs_sub (lv' := [(0, .ref x0), (1, .int x1), (4, .int x4)]) [0, 1, 3] rfl ?_
        exact c_X9_classBy_b70 (f_X9_classBy_b40 n) ih h
      · rw [if_pos hc6] at h
        refine hs_iconst (v := (1 : Int32)) dX9_classBy_65 (by decide) ?_
        refine hs_goto (tgt := 70) dX9_classBy_66 (by decide) ?_
        refine hs_sub (lv' := [(0, .ref x0), (1, .int x1), (4, .int x4)]) [0, 1, 3] rfl ?_
        exact c_X9_classBy_b70 (f_X9_classBy_b40 n) ih h
set_option maxHeartbeats 4000000 in
set_option maxRecDepth 20000 in
theorem c_X9_classBy {G : hb_G} {l : Launch} {z : Bool} {x0 : Nat} {x1 : Int32} {x2 : Int32} {σ : hb_M} {r : (Int32 × hb_M)} (h : f_X9_classBy x0 x1 x2 σ = some r) : hb_Call G l z 2 0 0 mX9_classBy [.ref x0, .int x1, .int x2] σ (.inl (some (.int r.1)), r.2) := by
  refine hb_met (by decide) (Nat.le_of_ble_eq_true rfl) ?_
  unfold f_X9_classBy at h
  refine hs_iload_n dX9_classBy_0 2 rfl ?_
  refine hs_if_ne (tgt := 13) dX9_classBy_1 (by decide) (fun hc1 => ?_) (fun hc1 => ?_)
  · rw [if_neg hc1] at h
    refine hs_iload_n dX9_classBy_13 2 rfl ?_
    refine hs_iconst (v := (1 : Int32)) dX9_classBy_14 (by decide) ?_
    refine hs_icmp_ne (tgt := 24) dX9_classBy_15 (by decide) (fun hc2 => ?_) (fun hc2 => ?_)
    · rw [if_neg hc2] at h
      refine hs_iload_n dX9_classBy_24 2 rfl ?_
      refine hs_iconst (v := (2 : Int32)) dX9_classBy_25 (by decide) ?_
      refine hs_icmp_ne (tgt := 35) dX9_classBy_26 (by decide) (fun hc3 => ?_) (fun hc3 => ?_)
      · rw [if_neg hc3] at h
        refine hs_iconst (v := (0 : Int32)) dX9_classBy_35 (by decide) ?_
        refine hs_istore_n (lv' := [(3, .int (0 : Int32)), (0, .ref x0), (1, .int x1), (2, .int x2)]) dX9_classBy_36 (by decide) rfl ?_
        refine hs_iconst (v := (0 : Int32)) dX9_classBy_37 (by decide) ?_
        refine hs_istore (lv' := [(4, .int (0 : Int32)), (3, .int (0 : Int32)), (0, .ref x0), (1, .int x1), (2, .int x2)]) dX9_classBy_38 (by decide) rfl ?_
        refine hs_sub (lv' := [(0, .ref x0), (1, .int x1), (3, .int (0 : Int32)), (4, .int (0 : Int32))]) [2, 3, 1, 0] rfl ?_
        exact c_X9_classBy_b40 hb_FU _ _ _ _ _ _ h
      · rw [if_pos hc3] at h
        refine hs_aload_n dX9_classBy_29 0 rfl ?_
        refine hs_iload_n dX9_classBy_30 1 rfl ?_
        obtain ⟨r4, h4, h⟩ := hb_bind h
        obtain ⟨h4, nf4, hb4⟩ := hb_on_at h4
        refine hs_callVi (μ' := mX9_sizeOfClass) (mc := 0) (ms := 0) (rc := 0) (rs := 0) (As := [.int x1]) (rest := []) (ci := 9) dX9_classBy_31 lmX9_92 okX9_sizeOfClass rfl (by decide) rfl (Nat.le_of_ble_eq_true rfl) rfl hb4 (c_X9_sizeOfClass h4) ?_
        obtain rfl := Option.some.inj h
        exact hs_ireturn dX9_classBy_34 rfl (by rfl) (fun _ => rfl)
    · rw [if_pos hc2] at h
      refine hs_aload_n dX9_classBy_18 0 rfl ?_
      refine hs_iload_n dX9_classBy_19 1 rfl ?_
      obtain ⟨r5, h5, h⟩ := hb_bind h
      obtain ⟨h5, nf5, hb5⟩ := hb_on_at h5
      refine hs_callVi (μ' := mX9_fieldsOf) (mc := 0) (ms := 0) (rc := 0) (rs := 0) (As := [.int x1]) (rest := []) (ci := 9) dX9_classBy_20 lmX9_82 okX9_fieldsOf rfl (by decide) rfl (Nat.le_of_ble_eq_true rfl) rfl hb5 (c_X9_fieldsOf h5) ?_
      obtain rfl := Option.some.inj h
      exact hs_ireturn dX9_classBy_23 rfl (by rfl) (fun _ => rfl)
  · rw [if_pos hc1] at h
    refine hs_aload_n dX9_classBy_4 0 rfl ?_
    obtain ⟨r6, h6, h⟩ := hb_bind h
    refine hs_getR dX9_classBy_5 lkX9_7 rfl h6 ?_
    refine hs_iconst (v := (1 : Int32)) dX9_classBy_8 (by decide) ?_
    refine hs_iload_n dX9_classBy_9 1 rfl ?_
    refine hs_iadd dX9_classBy_10 ?_
    obtain ⟨r7, h7, h⟩ := hb_bind h
    refine hs_iald dX9_classBy_11 h7 ?_
    obtain rfl := Option.some.inj h
    exact hs_ireturn dX9_classBy_12 rfl (by rfl) (fun _ => rfl)
def mX9_classInfo : hb_Y := (yX9_classInfo, cX9_classInfo, 3, (some .int), [], false)
set_option maxHeartbeats 4000000 in
set_option maxRecDepth 20000 in
theorem c_X9_classInfo_b27 {G : hb_G} {l : Launch} {z : Bool}  {x0 : Nat} {x1 : Int32} {x2 : Int32} {s0 : Nat} {s1 : Int32} {σ : hb_M} {r : (Int32 × hb_M)} (h : f_X9_classInfo_b27 x0 x1 x2 s0 s1 σ = some r) : hb_T G l z mX9_classInfo 3 0 0 27 [(0, .ref x0), (1, .int x1), (2, .int x2)] [.int s1, .ref s0] σ (.inl (some (.int r.1)), r.2) := by
  unfold f_X9_classInfo_b27 at h
  obtain ⟨r1, h1, h⟩ := hb_bind h
  obtain ⟨h1, nf1, hb1⟩ := hb_on_at h1
  refine hs_callVi (μ' := mX9_refused) (mc := 0) (ms := 0) (rc := 0) (rs := 0) (As := [.int s1]) (rest := []) (ci := 9) dX9_classInfo_27 lmX9_74 okX9_refused rfl (by decide) rfl (Nat.le_of_ble_eq_true rfl) rfl hb1 (c_X9_refused h1) ?_
  refine hs_if_eq (tgt := 37) dX9_classInfo_30 (by decide) (fun hc2 => ?_) (fun hc2 => ?_)
  · rw [if_pos hc2] at h
    refine hs_aload_n dX9_classInfo_37 0 rfl ?_
    refine hs_iload_n dX9_classInfo_38 1 rfl ?_
    refine hs_iload_n dX9_classInfo_39 2 rfl ?_
    obtain ⟨r3, h3, h⟩ := hb_bind h
    obtain ⟨h3, nf3, hb3⟩ := hb_on_at h3
    refine hs_callVi (μ' := mX9_classBy) (mc := 0) (ms := 0) (rc := 0) (rs := 0) (As := [.int x1, .int x2]) (rest := []) (ci := 9) dX9_classInfo_40 lmX9_95 okX9_classBy rfl (by decide) rfl (Nat.le_of_ble_eq_true rfl) rfl hb3 (c_X9_classBy h3) ?_
    obtain rfl := Option.some.inj h
    exact hs_ireturn dX9_classInfo_43 rfl (by rfl) (fun _ => rfl)
  · rw [if_neg hc2] at h
    refine hs_iconst (v := (0 : Int32)) dX9_classInfo_33 (by decide) ?_
    refine hs_goto (tgt := 43) dX9_classInfo_34 (by decide) ?_
    obtain rfl := Option.some.inj h
    exact hs_ireturn dX9_classInfo_43 rfl (by rfl) (fun _ => rfl)
set_option maxHeartbeats 4000000 in
set_option maxRecDepth 20000 in
theorem c_X9_classInfo {G : hb_G} {l : Launch} {z : Bool} {x0 : Nat} {x1 : Int32} {x2 : Int32} {σ : hb_M} {r : (Int32 × hb_M)} (h : f_X9_classInfo x0 x1 x2 σ = some r) : hb_Call G l z 3 0 0 mX9_classInfo [.ref x0, .int x1, .int x2] σ (.inl (some (.int r.1)), r.2) := by
  refine hb_met (by decide) (Nat.le_of_ble_eq_true rfl) ?_
  unfold f_X9_classInfo at h
  refine hs_aload_n dX9_classInfo_0 0 rfl ?_
  refine hs_aload_n dX9_classInfo_1 0 rfl ?_
  refine hs_iload_n dX9_classInfo_2 1 rfl ?_
  obtain ⟨r1, h1, h⟩ := hb_bind h
  obtain ⟨h1, nf1, hb1⟩ := hb_on_at h1
  refine hs_callVi (μ' := mX9_isClass) (mc := 0) (ms := 0) (rc := 0) (rs := 0) (As := [.int x1]) (rest := [.ref x0]) (ci := 9) dX9_classInfo_3 lmX9_86 okX9_isClass rfl (by decide) rfl (Nat.le_of_ble_eq_true rfl) rfl hb1 (c_X9_isClass h1) ?_
  refine hs_if_ne (tgt := 13) dX9_classInfo_6 (by decide) (fun hc2 => ?_) (fun hc2 => ?_)
  · rw [if_neg hc2] at h
    refine hs_iload_n dX9_classInfo_13 2 rfl ?_
    refine hs_iconst (v := (0 : Int32)) dX9_classInfo_14 (by decide) ?_
    refine hs_iconst (v := (3 : Int32)) dX9_classInfo_15 (by decide) ?_
    obtain ⟨r3, h3, h⟩ := hb_bind h
    refine hs_callSi (μ' := mX9_within) (mc := 0) (ms := 0) (rc := 0) (rs := 0) (As := [.int x2, .int (0 : Int32), .int (3 : Int32)]) (rest := [.ref x0]) dX9_classInfo_16 lmX9_78 okX9_within rfl (by decide) rfl (Nat.le_of_ble_eq_true rfl) (c_X9_within h3) ?_
    refine hs_if_ne (tgt := 26) dX9_classInfo_19 (by decide) (fun hc4 => ?_) (fun hc4 => ?_)
    · rw [if_neg hc4] at h
      refine hs_iconst (v := (0 : Int32)) dX9_classInfo_26 (by decide) ?_
      refine hs_sub (lv' := [(0, .ref x0), (1, .int x1), (2, .int x2)]) [0, 1, 2] rfl ?_
      exact c_X9_classInfo_b27 h
    · rw [if_pos hc4] at h
      refine hs_iconst (v := (2 : Int32)) dX9_classInfo_22 (by decide) ?_
      refine hs_goto (tgt := 27) dX9_classInfo_23 (by decide) ?_
      refine hs_sub (lv' := [(0, .ref x0), (1, .int x1), (2, .int x2)]) [0, 1, 2] rfl ?_
      exact c_X9_classInfo_b27 h
  · rw [if_pos hc2] at h
    refine hs_iconst (v := (1 : Int32)) dX9_classInfo_9 (by decide) ?_
    refine hs_goto (tgt := 27) dX9_classInfo_10 (by decide) ?_
    refine hs_sub (lv' := [(0, .ref x0), (1, .int x1), (2, .int x2)]) [0, 1, 2] rfl ?_
    exact c_X9_classInfo_b27 h
def mX9_isSubclass : hb_Y := (yX9_isSubclass, cX9_isSubclass, 3, (some .boolean), [], false)
set_option maxHeartbeats 4000000 in
set_option maxRecDepth 20000 in
theorem c_X9_isSubclass_b22 {G : hb_G} {l : Launch} {z : Bool}  {x0 : Nat} {x1 : Int32} {x2 : Int32} {s0 : Nat} {s1 : Int32} {σ : hb_M} {r : (Int32 × hb_M)} (h : f_X9_isSubclass_b22 x0 x1 x2 s0 s1 σ = some r) : hb_T G l z mX9_isSubclass 2 0 0 22 [(0, .ref x0), (1, .int x1), (2, .int x2)] [.int s1, .ref s0] σ (.inl (some (.int r.1)), r.2) := by
  unfold f_X9_isSubclass_b22 at h
  obtain ⟨r1, h1, h⟩ := hb_bind h
  obtain ⟨h1, nf1, hb1⟩ := hb_on_at h1
  refine hs_callVi (μ' := mX9_refused) (mc := 0) (ms := 0) (rc := 0) (rs := 0) (As := [.int s1]) (rest := []) (ci := 9) dX9_isSubclass_22 lmX9_74 okX9_refused rfl (by decide) rfl (Nat.le_of_ble_eq_true rfl) rfl hb1 (c_X9_refused h1) ?_
  refine hs_if_ne (tgt := 41) dX9_isSubclass_25 (by decide) (fun hc2 => ?_) (fun hc2 => ?_)
  · rw [if_neg hc2] at h
    refine hs_iconst (v := (0 : Int32)) dX9_isSubclass_41 (by decide) ?_
    obtain rfl := Option.some.inj h
    exact hs_ireturn dX9_isSubclass_42 rfl (by decide) (fun _ => rfl)
  · rw [if_pos hc2] at h
    refine hs_aload_n dX9_isSubclass_28 0 rfl ?_
    refine hs_iload_n dX9_isSubclass_29 1 rfl ?_
    refine hs_iload_n dX9_isSubclass_30 2 rfl ?_
    obtain ⟨r3, h3, h⟩ := hb_bind h
    obtain ⟨h3, nf3, hb3⟩ := hb_on_at h3
    refine hs_callVi (μ' := mX9_isBelow) (mc := 0) (ms := 0) (rc := 0) (rs := 0) (As := [.int x1, .int x2]) (rest := []) (ci := 9) dX9_isSubclass_31 lmX9_99 okX9_isBelow rfl (by decide) rfl (Nat.le_of_ble_eq_true rfl) rfl hb3 (c_X9_isBelow h3) ?_
    refine hs_if_eq (tgt := 41) dX9_isSubclass_34 (by decide) (fun hc4 => ?_) (fun hc4 => ?_)
    · rw [if_pos hc4] at h
      refine hs_iconst (v := (0 : Int32)) dX9_isSubclass_41 (by decide) ?_
      obtain rfl := Option.some.inj h
      exact hs_ireturn dX9_isSubclass_42 rfl (by decide) (fun _ => rfl)
    · rw [if_neg hc4] at h
      refine hs_iconst (v := (1 : Int32)) dX9_isSubclass_37 (by decide) ?_
      refine hs_goto (tgt := 42) dX9_isSubclass_38 (by decide) ?_
      obtain rfl := Option.some.inj h
      exact hs_ireturn dX9_isSubclass_42 rfl (by decide) (fun _ => rfl)
set_option maxHeartbeats 4000000 in
set_option maxRecDepth 20000 in
theorem c_X9_isSubclass_b21 {G : hb_G} {l : Launch} {z : Bool}  {x0 : Nat} {x1 : Int32} {x2 : Int32} {s0 : Nat} {σ : hb_M} {r : (Int32 × hb_M)} (h : f_X9_isSubclass_b21 x0 x1 x2 s0 σ = some r) : hb_T G l z mX9_isSubclass 2 0 0 21 [(0, .ref x0), (1, .int x1), (2, .int x2)] [.ref s0] σ (.inl (some (.int r.1)), r.2) := by
  unfold f_X9_isSubclass_b21 at h
  refine hs_iconst (v := (1 : Int32)) dX9_isSubclass_21 (by decide) ?_
  refine hs_sub (lv' := [(0, .ref x0), (1, .int x1), (2, .int x2)]) [0, 1, 2] rfl ?_
  exact c_X9_isSubclass_b22 h
set_option maxHeartbeats 4000000 in
set_option maxRecDepth 20000 in
theorem c_X9_isSubclass {G : hb_G} {l : Launch} {z : Bool} {x0 : Nat} {x1 : Int32} {x2 : Int32} {σ : hb_M} {r : (Int32 × hb_M)} (h : f_X9_isSubclass x0 x1 x2 σ = some r) : hb_Call G l z 2 0 0 mX9_isSubclass [.ref x0, .int x1, .int x2] σ (.inl (some (.int r.1)), r.2) := by
  refine hb_met (by decide) (Nat.le_of_ble_eq_true rfl) ?_
  unfold f_X9_isSubclass at h
  refine hs_aload_n dX9_isSubclass_0 0 rfl ?_
  refine hs_aload_n dX9_isSubclass_1 0 rfl ?_
  refine hs_iload_n dX9_isSubclass_2 1 rfl ?_
  obtain ⟨r1, h1, h⟩ := hb_bind h
  obtain ⟨h1, nf1, hb1⟩ := hb_on_at h1
  refine hs_callVi (μ' := mX9_isClass) (mc := 0) (ms := 0) (rc := 0) (rs := 0) (As := [.int x1]) (rest := [.ref x0]) (ci := 9) dX9_isSubclass_3 lmX9_86 okX9_isClass rfl (by decide) rfl (Nat.le_of_ble_eq_true rfl) rfl hb1 (c_X9_isClass h1) ?_
  refine hs_if_eq (tgt := 21) dX9_isSubclass_6 (by decide) (fun hc2 => ?_) (fun hc2 => ?_)
  · rw [if_pos hc2] at h
    refine hs_sub (lv' := [(0, .ref x0), (1, .int x1), (2, .int x2)]) [0, 1, 2] rfl ?_
    exact c_X9_isSubclass_b21 h
  · rw [if_neg hc2] at h
    refine hs_aload_n dX9_isSubclass_9 0 rfl ?_
    refine hs_iload_n dX9_isSubclass_10 2 rfl ?_
    obtain ⟨r3, h3, h⟩ := hb_bind h
    obtain ⟨h3, nf3, hb3⟩ := hb_on_at h3
    refine hs_callVi (μ' := mX9_isClass) (mc := 0) (ms := 0) (rc := 0) (rs := 0) (As := [.int x2]) (rest := [.ref x0]) (ci := 9) dX9_isSubclass_11 lmX9_86 okX9_isClass rfl (by decide) rfl (Nat.le_of_ble_eq_true rfl) rfl hb3 (c_X9_isClass h3) ?_
    refine hs_if_eq (tgt := 21) dX9_isSubclass_14 (by decide) (fun hc4 => ?_) (fun hc4 => ?_)
    · rw [if_pos hc4] at h
      refine hs_sub (lv' := [(0, .ref x0), (1, .int x1), (2, .int x2)]) [0, 1, 2] rfl ?_
      exact c_X9_isSubclass_b21 h
    · rw [if_neg hc4] at h
      refine hs_iconst (v := (0 : Int32)) dX9_isSubclass_17 (by decide) ?_
      refine hs_goto (tgt := 22) dX9_isSubclass_18 (by decide) ?_
      refine hs_sub (lv' := [(0, .ref x0), (1, .int x1), (2, .int x2)]) [0, 1, 2] rfl ?_
      exact c_X9_isSubclass_b22 h
def mX9_at : hb_Y := (yX9_at, cX9_at, 1, (some .int), [], false)
theorem okX9_at : hb_okS mX9_at 1 := ⟨⟨hb_w 11 (by decide +kernel) (by decide +kernel), hb_w 1489 (by decide +kernel) (by decide +kernel), ⟨by decide +kernel, by decide +kernel, by decide +kernel⟩, by decide⟩, hb_w 1488 (by decide +kernel) (by decide +kernel)⟩
set_option maxHeartbeats 4000000 in
set_option maxRecDepth 20000 in
theorem c_X9_at {G : hb_G} {l : Launch} {z : Bool} {x0 : Int32} {σ : hb_M} {r : (Int32 × hb_M)} (h : f_X9_at x0 σ = some r) : hb_Call G l z 0 0 0 mX9_at [.int x0] σ (.inl (some (.int r.1)), r.2) := by
  refine hb_met (by decide) (Nat.le_of_ble_eq_true rfl) ?_
  unfold f_X9_at at h
  refine hs_bipush (v := (32 : Int32)) dX9_at_0 (by decide) ?_
  refine hs_bipush (v := (13 : Int32)) dX9_at_2 (by decide) ?_
  refine hs_iload_n dX9_at_4 0 rfl ?_
  refine hs_imul dX9_at_5 ?_
  refine hs_iadd dX9_at_6 ?_
  obtain rfl := Option.some.inj h
  exact hs_ireturn dX9_at_7 rfl (by rfl) (fun _ => rfl)
def mX9_isObject : hb_Y := (yX9_isObject, cX9_isObject, 2, (some .boolean), [], false)
theorem okX9_isObject : hb_okV mX9_isObject 1 := ⟨⟨hb_w 11 (by decide +kernel) (by decide +kernel), hb_w 1486 (by decide +kernel) (by decide +kernel), ⟨by decide +kernel, by decide +kernel, by decide +kernel⟩, by decide⟩, hb_w 1485 (by decide +kernel) (by decide +kernel), hb_wp (q := (yX9_isObject, 29)) 44 (by decide +kernel) (by decide +kernel)⟩
set_option maxHeartbeats 4000000 in
set_option maxRecDepth 20000 in
theorem c_X9_isObject {G : hb_G} {l : Launch} {z : Bool} {x0 : Nat} {x1 : Int32} {σ : hb_M} {r : (Int32 × hb_M)} (h : f_X9_isObject x0 x1 σ = some r) : hb_Call G l z 1 0 0 mX9_isObject [.ref x0, .int x1] σ (.inl (some (.int r.1)), r.2) := by
  refine hb_met (by decide) (Nat.le_of_ble_eq_true rfl) ?_
  unfold f_X9_isObject at h
  refine hs_iload_n dX9_isObject_0 1 rfl ?_
  refine hs_iconst (v := (0 : Int32)) dX9_isObject_1 (by decide) ?_
  refine hs_bipush (v := (39 : Int32)) dX9_isObject_2 (by decide) ?_
  obtain ⟨r1, h1, h⟩ := hb_bind h
  refine hs_callSi (μ' := mX9_within) (mc := 0) (ms := 0) (rc := 0) (rs := 0) (As := [.int x1, .int (0 : Int32), .int (39 : Int32)]) (rest := []) dX9_isObject_4 lmX9_78 okX9_within rfl (by decide) rfl (Nat.le_of_ble_eq_true rfl) (c_X9_within h1) ?_
  refine hs_if_eq (tgt := 28) dX9_isObject_7 (by decide) (fun hc2 => ?_) (fun hc2 => ?_)
  · rw [if_pos hc2] at h
    refine hs_iconst (v := (0 : Int32)) dX9_isObject_28 (by decide) ?_
    obtain rfl := Option.some.inj h
    exact hs_ireturn dX9_isObject_29 rfl (by decide) (fun _ => rfl)
  · rw [if_neg hc2] at h
    refine hs_aload_n dX9_isObject_10 0 rfl ?_
    obtain ⟨r3, h3, h⟩ := hb_bind h
    refine hs_getR dX9_isObject_11 lkX9_7 rfl h3 ?_
    refine hs_iload_n dX9_isObject_14 1 rfl ?_
    obtain ⟨r4, h4, h⟩ := hb_bind h
    refine hs_callSi (μ' := mX9_at) (mc := 0) (ms := 0) (rc := 0) (rs := 0) (As := [.int x1]) (rest := [.ref r3]) dX9_isObject_15 lmX9_103 okX9_at rfl (by decide) rfl (Nat.le_of_ble_eq_true rfl) (c_X9_at h4) ?_
    refine hs_iconst (v := (0 : Int32)) dX9_isObject_18 (by decide) ?_
    refine hs_iadd dX9_isObject_19 ?_
    obtain ⟨r5, h5, h⟩ := hb_bind h
    refine hs_iald dX9_isObject_20 h5 ?_
    refine hs_if_eq (tgt := 28) dX9_isObject_21 (by decide) (fun hc6 => ?_) (fun hc6 => ?_)
    · rw [if_pos hc6] at h
      refine hs_iconst (v := (0 : Int32)) dX9_isObject_28 (by decide) ?_
      obtain rfl := Option.some.inj h
      exact hs_ireturn dX9_isObject_29 rfl (by decide) (fun _ => rfl)
    · rw [if_neg hc6] at h
      refine hs_iconst (v := (1 : Int32)) dX9_isObject_24 (by decide) ?_
      refine hs_goto (tgt := 29) dX9_isObject_25 (by decide) ?_
      obtain rfl := Option.some.inj h
      exact hs_ireturn dX9_isObject_29 rfl (by decide) (fun _ => rfl)
def mX9_isSlot : hb_Y := (yX9_isSlot, cX9_isSlot, 3, (some .boolean), [], false)
theorem okX9_isSlot : hb_okV mX9_isSlot 2 := ⟨⟨hb_w 11 (by decide +kernel) (by decide +kernel), hb_w 1517 (by decide +kernel) (by decide +kernel), ⟨by decide +kernel, by decide +kernel, by decide +kernel⟩, by decide⟩, hb_w 1516 (by decide +kernel) (by decide +kernel), hb_wp (q := (yX9_isSlot, 29)) 48 (by decide +kernel) (by decide +kernel)⟩
set_option maxHeartbeats 4000000 in
set_option maxRecDepth 20000 in
theorem c_X9_isSlot {G : hb_G} {l : Launch} {z : Bool} {x0 : Nat} {x1 : Int32} {x2 : Int32} {σ : hb_M} {r : (Int32 × hb_M)} (h : f_X9_isSlot x0 x1 x2 σ = some r) : hb_Call G l z 2 0 0 mX9_isSlot [.ref x0, .int x1, .int x2] σ (.inl (some (.int r.1)), r.2) := by
  refine hb_met (by decide) (Nat.le_of_ble_eq_true rfl) ?_
  unfold f_X9_isSlot at h
  refine hs_aload_n dX9_isSlot_0 0 rfl ?_
  refine hs_iload_n dX9_isSlot_1 1 rfl ?_
  obtain ⟨r1, h1, h⟩ := hb_bind h
  obtain ⟨h1, nf1, hb1⟩ := hb_on_at h1
  refine hs_callVi (μ' := mX9_isObject) (mc := 0) (ms := 0) (rc := 0) (rs := 0) (As := [.int x1]) (rest := []) (ci := 9) dX9_isSlot_2 lmX9_106 okX9_isObject rfl (by decide) rfl (Nat.le_of_ble_eq_true rfl) rfl hb1 (c_X9_isObject h1) ?_
  refine hs_if_eq (tgt := 33) dX9_isSlot_5 (by decide) (fun hc2 => ?_) (fun hc2 => ?_)
  · rw [if_pos hc2] at h
    refine hs_iconst (v := (0 : Int32)) dX9_isSlot_33 (by decide) ?_
    obtain rfl := Option.some.inj h
    exact hs_ireturn dX9_isSlot_34 rfl (by decide) (fun _ => rfl)
  · rw [if_neg hc2] at h
    refine hs_iload_n dX9_isSlot_8 2 rfl ?_
    refine hs_iconst (v := (0 : Int32)) dX9_isSlot_9 (by decide) ?_
    refine hs_aload_n dX9_isSlot_10 0 rfl ?_
    obtain ⟨r3, h3, h⟩ := hb_bind h
    refine hs_getR dX9_isSlot_11 lkX9_7 rfl h3 ?_
    refine hs_iload_n dX9_isSlot_14 1 rfl ?_
    obtain ⟨r4, h4, h⟩ := hb_bind h
    refine hs_callSi (μ' := mX9_at) (mc := 0) (ms := 0) (rc := 0) (rs := 0) (As := [.int x1]) (rest := [.ref r3, .int (0 : Int32), .int x2]) dX9_isSlot_15 lmX9_103 okX9_at rfl (by decide) rfl (Nat.le_of_ble_eq_true rfl) (c_X9_at h4) ?_
    refine hs_iconst (v := (2 : Int32)) dX9_isSlot_18 (by decide) ?_
    refine hs_iadd dX9_isSlot_19 ?_
    obtain ⟨r5, h5, h⟩ := hb_bind h
    refine hs_iald dX9_isSlot_20 h5 ?_
    refine hs_iconst (v := (1 : Int32)) dX9_isSlot_21 (by decide) ?_
    refine hs_isub dX9_isSlot_22 ?_
    obtain ⟨r6, h6, h⟩ := hb_bind h
    refine hs_callSi (μ' := mX9_within) (mc := 0) (ms := 0) (rc := 0) (rs := 0) (As := [.int x2, .int (0 : Int32), .int (r5 - (1 : Int32))]) (rest := []) dX9_isSlot_23 lmX9_78 okX9_within rfl (by decide) rfl (Nat.le_of_ble_eq_true rfl) (c_X9_within h6) ?_
    refine hs_if_eq (tgt := 33) dX9_isSlot_26 (by decide) (fun hc7 => ?_) (fun hc7 => ?_)
    · rw [if_pos hc7] at h
      refine hs_iconst (v := (0 : Int32)) dX9_isSlot_33 (by decide) ?_
      obtain rfl := Option.some.inj h
      exact hs_ireturn dX9_isSlot_34 rfl (by decide) (fun _ => rfl)
    · rw [if_neg hc7] at h
      refine hs_iconst (v := (1 : Int32)) dX9_isSlot_29 (by decide) ?_
      refine hs_goto (tgt := 34) dX9_isSlot_30 (by decide) ?_
      obtain rfl := Option.some.inj h
      exact hs_ireturn dX9_isSlot_34 rfl (by decide) (fun _ => rfl)
def mX9_many : hb_Y := (yX9_many, cX9_many, 3, (some .int), [], false)
theorem okX9_many : hb_okV mX9_many 0 := ⟨⟨hb_w 11 (by decide +kernel) (by decide +kernel), hb_w 1482 (by decide +kernel) (by decide +kernel), ⟨by decide +kernel, by decide +kernel, by decide +kernel⟩, by decide⟩, hb_w 1481 (by decide +kernel) (by decide +kernel), hb_wp (q := (yX9_many, 29)) 43 (by decide +kernel) (by decide +kernel)⟩
set_option maxHeartbeats 4000000 in
set_option maxRecDepth 20000 in
theorem c_X9_many_b24 {G : hb_G} {l : Launch} {z : Bool}  (k4 : Nat → Int32 → Int32 → hb_M → Option (Int32 × hb_M)) (hk4 : ∀ (x0 : Nat) (x1 : Int32) (x2 : Int32) (σ : hb_M) (r : (Int32 × hb_M)), k4 x0 x1 x2 σ = some r → hb_T G l z mX9_many 2 0 0 4 [(0, .ref x0), (1, .int x1), (2, .int x2)] [] σ (.inl (some (.int r.1)), r.2))  {x0 : Nat} {x2 : Int32} {s0 : Int32} {s1 : Int32} {σ : hb_M} {r : (Int32 × hb_M)} (h : f_X9_many_b24 k4 x0 x2 s0 s1 σ = some r) : hb_T G l z mX9_many 2 0 0 24 [(0, .ref x0), (2, .int x2)] [.int s1, .int s0] σ (.inl (some (.int r.1)), r.2) := by
  unfold f_X9_many_b24 at h
  refine hs_iadd dX9_many_24 ?_
  refine hs_istore_n (lv' := [(1, .int (s0 + s1)), (0, .ref x0), (2, .int x2)]) dX9_many_25 (by decide) rfl ?_
  refine hs_iinc2 (k := (1 : Int32)) (lv' := [(2, .int (x2 + (1 : Int32))), (1, .int (s0 + s1)), (0, .ref x0)]) dX9_many_26 (by decide) 2 rfl (by decide) rfl ?_
  refine hs_goto (tgt := 4) dX9_many_29 (by decide) ?_
  refine hs_sub (lv' := [(0, .ref x0), (1, .int (s0 + s1)), (2, .int (x2 + (1 : Int32)))]) [2, 1, 0] rfl ?_
  exact hk4 _ _ _ _ _ h
set_option maxHeartbeats 4000000 in
set_option maxRecDepth 20000 in
theorem c_X9_many_b4 {G : hb_G} {l : Launch} {z : Bool} : ∀ (n : Nat) (x0 : Nat) (x1 : Int32) (x2 : Int32) (σ : hb_M) (r : (Int32 × hb_M)), f_X9_many_b4 n x0 x1 x2 σ = some r → hb_T G l z mX9_many 2 0 0 4 [(0, .ref x0), (1, .int x1), (2, .int x2)] [] σ (.inl (some (.int r.1)), r.2) := by
  intro n
  induction n with
  | zero =>
    intro x0 x1 x2 σ r h
    cases h
  | succ n ih =>
    intro x0 x1 x2 σ r h
    rw [f_X9_many_b4] at h
    refine hs_iload_n dX9_many_4 2 rfl ?_
    refine hs_bipush (v := (40 : Int32)) dX9_many_5 (by decide) ?_
    refine hs_icmp_ge (tgt := 32) dX9_many_7 (by decide) (fun hc1 => ?_) (fun hc1 => ?_)
    · rw [if_pos hc1] at h
      refine hs_iload_n dX9_many_32 1 rfl ?_
      obtain rfl := Option.some.inj h
      exact hs_ireturn dX9_many_33 rfl (by rfl) (fun _ => rfl)
    · rw [if_neg hc1] at h
      refine hs_iload_n dX9_many_10 1 rfl ?_
      refine hs_aload_n dX9_many_11 0 rfl ?_
      refine hs_iload_n dX9_many_12 2 rfl ?_
      obtain ⟨r2, h2, h⟩ := hb_bind h
      obtain ⟨h2, nf2, hb2⟩ := hb_on_at h2
      refine hs_callVi (μ' := mX9_isObject) (mc := 0) (ms := 0) (rc := 0) (rs := 0) (As := [.int x2]) (rest := [.int x1]) (ci := 9) dX9_many_13 lmX9_106 okX9_isObject rfl (by decide) rfl (Nat.le_of_ble_eq_true rfl) rfl hb2 (c_X9_isObject h2) ?_
      refine hs_if_eq (tgt := 23) dX9_many_16 (by decide) (fun hc3 => ?_) (fun hc3 => ?_)
      · rw [if_pos hc3] at h
        refine hs_iconst (v := (0 : Int32)) dX9_many_23 (by decide) ?_
        refine hs_sub (lv' := [(0, .ref x0), (2, .int x2)]) [0, 2] rfl ?_
        exact c_X9_many_b24 (f_X9_many_b4 n) ih h
      · rw [if_neg hc3] at h
        refine hs_iconst (v := (1 : Int32)) dX9_many_19 (by decide) ?_
        refine hs_goto (tgt := 24) dX9_many_20 (by decide) ?_
        refine hs_sub (lv' := [(0, .ref x0), (2, .int x2)]) [0, 2] rfl ?_
        exact c_X9_many_b24 (f_X9_many_b4 n) ih h
set_option maxHeartbeats 4000000 in
set_option maxRecDepth 20000 in
theorem c_X9_many {G : hb_G} {l : Launch} {z : Bool} {x0 : Nat} {σ : hb_M} {r : (Int32 × hb_M)} (h : f_X9_many x0 σ = some r) : hb_Call G l z 2 0 0 mX9_many [.ref x0] σ (.inl (some (.int r.1)), r.2) := by
  refine hb_met (by decide) (Nat.le_of_ble_eq_true rfl) ?_
  unfold f_X9_many at h
  refine hs_iconst (v := (0 : Int32)) dX9_many_0 (by decide) ?_
  refine hs_istore_n (lv' := [(1, .int (0 : Int32)), (0, .ref x0)]) dX9_many_1 (by decide) rfl ?_
  refine hs_iconst (v := (0 : Int32)) dX9_many_2 (by decide) ?_
  refine hs_istore_n (lv' := [(2, .int (0 : Int32)), (1, .int (0 : Int32)), (0, .ref x0)]) dX9_many_3 (by decide) rfl ?_
  refine hs_sub (lv' := [(0, .ref x0), (1, .int (0 : Int32)), (2, .int (0 : Int32))]) [2, 1, 0] rfl ?_
  exact c_X9_many_b4 hb_FU _ _ _ _ _ h
def mX9_sizeOf : hb_Y := (yX9_sizeOf, cX9_sizeOf, 3, (some .int), [], false)
theorem okX9_sizeOf : hb_okV mX9_sizeOf 1 := ⟨⟨hb_w 11 (by decide +kernel) (by decide +kernel), hb_w 1566 (by decide +kernel) (by decide +kernel), ⟨by decide +kernel, by decide +kernel, by decide +kernel⟩, by decide⟩, hb_w 1565 (by decide +kernel) (by decide +kernel), hb_wp (q := (yX9_sizeOf, 29)) 54 (by decide +kernel) (by decide +kernel)⟩
set_option maxHeartbeats 4000000 in
set_option maxRecDepth 20000 in
theorem c_X9_sizeOf {G : hb_G} {l : Launch} {z : Bool} {x0 : Nat} {x1 : Int32} {σ : hb_M} {r : (Int32 × hb_M)} (h : f_X9_sizeOf x0 x1 σ = some r) : hb_Call G l z 2 0 0 mX9_sizeOf [.ref x0, .int x1] σ (.inl (some (.int r.1)), r.2) := by
  refine hb_met (by decide) (Nat.le_of_ble_eq_true rfl) ?_
  unfold f_X9_sizeOf at h
  refine hs_aload_n dX9_sizeOf_0 0 rfl ?_
  obtain ⟨r1, h1, h⟩ := hb_bind h
  refine hs_getR dX9_sizeOf_1 lkX9_7 rfl h1 ?_
  refine hs_iload_n dX9_sizeOf_4 1 rfl ?_
  obtain ⟨r2, h2, h⟩ := hb_bind h
  refine hs_callSi (μ' := mX9_at) (mc := 0) (ms := 0) (rc := 0) (rs := 0) (As := [.int x1]) (rest := [.ref r1]) dX9_sizeOf_5 lmX9_103 okX9_at rfl (by decide) rfl (Nat.le_of_ble_eq_true rfl) (c_X9_at h2) ?_
  refine hs_iconst (v := (1 : Int32)) dX9_sizeOf_8 (by decide) ?_
  refine hs_iadd dX9_sizeOf_9 ?_
  obtain ⟨r3, h3, h⟩ := hb_bind h
  refine hs_iald dX9_sizeOf_10 h3 ?_
  refine hs_istore_n (lv' := [(2, .int r3), (0, .ref x0), (1, .int x1)]) dX9_sizeOf_11 (by decide) rfl ?_
  refine hs_iload_n dX9_sizeOf_12 0 rfl ?_
  refine hs_bipush (v := (11 : Int32)) dX9_sizeOf_13 (by decide) ?_
  refine hs_icmp_ne (tgt := 23) dX9_sizeOf_15 (by decide) (fun hc4 => ?_) (fun hc4 => ?_)
  · rw [if_neg hc4] at h
    refine hs_iload_n dX9_sizeOf_23 0 rfl ?_
    refine hs_bipush (v := (10 : Int32)) dX9_sizeOf_24 (by decide) ?_
    refine hs_icmp_ne (tgt := 57) dX9_sizeOf_26 (by decide) (fun hc5 => ?_) (fun hc5 => ?_)
    · rw [if_neg hc5] at h
      refine hs_aload_n dX9_sizeOf_57 1 rfl ?_
      refine hs_iload_n dX9_sizeOf_58 0 rfl ?_
      obtain ⟨r6, h6, h⟩ := hb_bind h
      obtain ⟨h6, nf6, hb6⟩ := hb_on_at h6
      refine hs_callVi (μ' := mX9_sizeOfClass) (mc := 0) (ms := 0) (rc := 0) (rs := 0) (As := [.int r3]) (rest := []) (ci := 9) dX9_sizeOf_59 lmX9_92 okX9_sizeOfClass rfl (by decide) rfl (Nat.le_of_ble_eq_true rfl) rfl hb6 (c_X9_sizeOfClass h6) ?_
      obtain rfl := Option.some.inj h
      exact hs_ireturn dX9_sizeOf_62 rfl (by rfl) (fun _ => rfl)
    · rw [if_pos hc5] at h
      refine hs_bipush (v := (16 : Int32)) dX9_sizeOf_29 (by decide) ?_
      refine hs_iconst (v := (4 : Int32)) dX9_sizeOf_31 (by decide) ?_
      refine hs_aload_n dX9_sizeOf_32 1 rfl ?_
      obtain ⟨r7, h7, h⟩ := hb_bind h
      refine hs_getR dX9_sizeOf_33 lkX9_7 rfl h7 ?_
      refine hs_iload_n dX9_sizeOf_36 2 rfl ?_
      obtain ⟨r8, h8, h⟩ := hb_bind h
      refine hs_callSi (μ' := mX9_at) (mc := 0) (ms := 0) (rc := 0) (rs := 0) (As := [.int x1]) (rest := [.ref r7, .int (4 : Int32), .int (16 : Int32)]) dX9_sizeOf_37 lmX9_103 okX9_at rfl (by decide) rfl (Nat.le_of_ble_eq_true rfl) (c_X9_at h8) ?_
      refine hs_iconst (v := (2 : Int32)) dX9_sizeOf_40 (by decide) ?_
      refine hs_iadd dX9_sizeOf_41 ?_
      obtain ⟨r9, h9, h⟩ := hb_bind h
      refine hs_iald dX9_sizeOf_42 h9 ?_
      refine hs_imul dX9_sizeOf_43 ?_
      refine hs_iadd dX9_sizeOf_44 ?_
      refine hs_bipush (v := (7 : Int32)) dX9_sizeOf_45 (by decide) ?_
      refine hs_iadd dX9_sizeOf_47 ?_
      refine hs_bipush (v := (8 : Int32)) dX9_sizeOf_48 (by decide) ?_
      refine hs_idiv dX9_sizeOf_50 (by decide) ?_
      refine hs_bipush (v := (8 : Int32)) dX9_sizeOf_51 (by decide) ?_
      refine hs_imul dX9_sizeOf_53 ?_
      refine hs_goto (tgt := 62) dX9_sizeOf_54 (by decide) ?_
      obtain rfl := Option.some.inj h
      exact hs_ireturn dX9_sizeOf_62 rfl (by rfl) (fun _ => rfl)
  · rw [if_pos hc4] at h
    refine hs_bipush (v := (24 : Int32)) dX9_sizeOf_18 (by decide) ?_
    refine hs_goto (tgt := 62) dX9_sizeOf_20 (by decide) ?_
    obtain rfl := Option.some.inj h
    exact hs_ireturn dX9_sizeOf_62 rfl (by rfl) (fun _ => rfl)
def mX9_sizes : hb_Y := (yX9_sizes, cX9_sizes, 6, (some .long), [], false)
set_option maxHeartbeats 4000000 in
set_option maxRecDepth 20000 in
theorem c_X9_sizes_b35 {G : hb_G} {l : Launch} {z : Bool}  (k5 : Nat → Int64 → Int64 → Int32 → hb_M → Option (Int64 × hb_M)) (hk5 : ∀ (x0 : Nat) (x1 : Int64) (x3 : Int64) (x5 : Int32) (σ : hb_M) (r : (Int64 × hb_M)), k5 x0 x1 x3 x5 σ = some r → hb_T G l z mX9_sizes 3 0 0 5 [(0, .ref x0), (1, .long x1), (3, .long x3), (5, .int x5)] [] σ (.inl (some (.long r.1)), r.2))  {x0 : Nat} {x1 : Int64} {x5 : Int32} {s0 : Int64} {s1 : Int64} {σ : hb_M} {r : (Int64 × hb_M)} (h : f_X9_sizes_b35 k5 x0 x1 x5 s0 s1 σ = some r) : hb_T G l z mX9_sizes 3 0 0 35 [(0, .ref x0), (1, .long x1), (5, .int x5)] [.long s1, .long s0] σ (.inl (some (.long r.1)), r.2) := by
  unfold f_X9_sizes_b35 at h
  refine hs_ladd dX9_sizes_35 ?_
  refine hs_lstore_n (lv' := [(3, .long (s0 + s1)), (0, .ref x0), (1, .long x1), (5, .int x5)]) dX9_sizes_36 (by decide) rfl ?_
  refine hs_iinc2 (k := (1 : Int32)) (lv' := [(5, .int (x5 + (1 : Int32))), (3, .long (s0 + s1)), (0, .ref x0), (1, .long x1)]) dX9_sizes_37 (by decide) 3 rfl (by decide) rfl ?_
  refine hs_goto (tgt := 5) dX9_sizes_40 (by decide) ?_
  refine hs_sub (lv' := [(0, .ref x0), (1, .long x1), (3, .long (s0 + s1)), (5, .int (x5 + (1 : Int32)))]) [2, 3, 1, 0] rfl ?_
  exact hk5 _ _ _ _ _ _ h
set_option maxHeartbeats 4000000 in
set_option maxRecDepth 20000 in
theorem c_X9_sizes_b5 {G : hb_G} {l : Launch} {z : Bool} : ∀ (n : Nat) (x0 : Nat) (x1 : Int64) (x3 : Int64) (x5 : Int32) (σ : hb_M) (r : (Int64 × hb_M)), f_X9_sizes_b5 n x0 x1 x3 x5 σ = some r → hb_T G l z mX9_sizes 3 0 0 5 [(0, .ref x0), (1, .long x1), (3, .long x3), (5, .int x5)] [] σ (.inl (some (.long r.1)), r.2) := by
  intro n
  induction n with
  | zero =>
    intro x0 x1 x3 x5 σ r h
    cases h
  | succ n ih =>
    intro x0 x1 x3 x5 σ r h
    rw [f_X9_sizes_b5] at h
    refine hs_iload dX9_sizes_5 3 rfl ?_
    refine hs_bipush (v := (40 : Int32)) dX9_sizes_7 (by decide) ?_
    refine hs_icmp_ge (tgt := 43) dX9_sizes_9 (by decide) (fun hc1 => ?_) (fun hc1 => ?_)
    · rw [if_pos hc1] at h
      refine hs_lload_n dX9_sizes_43 2 rfl ?_
      obtain rfl := Option.some.inj h
      exact hs_lreturn dX9_sizes_44 rfl (fun _ => rfl)
    · rw [if_neg hc1] at h
      refine hs_lload_n dX9_sizes_12 2 rfl ?_
      refine hs_lload_n dX9_sizes_13 1 rfl ?_
      refine hs_iload dX9_sizes_14 3 rfl ?_
      refine hs_lshr dX9_sizes_16 ?_
      refine hs_lconst (v := (1 : Int64)) dX9_sizes_17 (by decide) ?_
      refine hs_land dX9_sizes_18 ?_
      refine hs_lconst (v := (1 : Int64)) dX9_sizes_19 (by decide) ?_
      refine hs_lcmp dX9_sizes_20 ?_
      refine hs_if_ne (tgt := 34) dX9_sizes_21 (by decide) (fun hc2 => ?_) (fun hc2 => ?_)
      · rw [if_neg hc2] at h
        refine hs_lconst (v := (0 : Int64)) dX9_sizes_34 (by decide) ?_
        refine hs_sub (lv' := [(0, .ref x0), (1, .long x1), (5, .int x5)]) [0, 1, 3] rfl ?_
        exact c_X9_sizes_b35 (f_X9_sizes_b5 n) ih h
      · rw [if_pos hc2] at h
        refine hs_aload_n dX9_sizes_24 0 rfl ?_
        refine hs_iload dX9_sizes_25 3 rfl ?_
        obtain ⟨r3, h3, h⟩ := hb_bind h
        obtain ⟨h3, nf3, hb3⟩ := hb_on_at h3
        refine hs_callVi (μ' := mX9_sizeOf) (mc := 0) (ms := 0) (rc := 0) (rs := 0) (As := [.int x5]) (rest := [.long x3]) (ci := 9) dX9_sizes_27 lmX9_109 okX9_sizeOf rfl (by decide) rfl (Nat.le_of_ble_eq_true rfl) rfl hb3 (c_X9_sizeOf h3) ?_
        refine hs_i2l dX9_sizes_30 ?_
        refine hs_goto (tgt := 35) dX9_sizes_31 (by decide) ?_
        refine hs_sub (lv' := [(0, .ref x0), (1, .long x1), (5, .int x5)]) [0, 1, 3] rfl ?_
        exact c_X9_sizes_b35 (f_X9_sizes_b5 n) ih h
set_option maxHeartbeats 4000000 in
set_option maxRecDepth 20000 in
theorem c_X9_sizes {G : hb_G} {l : Launch} {z : Bool} {x0 : Nat} {x1 : Int64} {σ : hb_M} {r : (Int64 × hb_M)} (h : f_X9_sizes x0 x1 σ = some r) : hb_Call G l z 3 0 0 mX9_sizes [.ref x0, .long x1] σ (.inl (some (.long r.1)), r.2) := by
  refine hb_met (by decide) (Nat.le_of_ble_eq_true rfl) ?_
  unfold f_X9_sizes at h
  refine hs_lconst (v := (0 : Int64)) dX9_sizes_0 (by decide) ?_
  refine hs_lstore_n (lv' := [(3, .long (0 : Int64)), (0, .ref x0), (1, .long x1)]) dX9_sizes_1 (by decide) rfl ?_
  refine hs_iconst (v := (0 : Int32)) dX9_sizes_2 (by decide) ?_
  refine hs_istore (lv' := [(5, .int (0 : Int32)), (3, .long (0 : Int64)), (0, .ref x0), (1, .long x1)]) dX9_sizes_3 (by decide) rfl ?_
  refine hs_sub (lv' := [(0, .ref x0), (1, .long x1), (3, .long (0 : Int64)), (5, .int (0 : Int32))]) [2, 3, 1, 0] rfl ?_
  exact c_X9_sizes_b5 hb_FU _ _ _ _ _ _ h
def mX9_creates : hb_Y := (yX9_creates, cX9_creates, 5, (some .int), [], false)
theorem okX9_creates : hb_okV mX9_creates 2 := ⟨⟨hb_w 11 (by decide +kernel) (by decide +kernel), hb_w 1493 (by decide +kernel) (by decide +kernel), ⟨by decide +kernel, by decide +kernel, by decide +kernel⟩, by decide⟩, hb_w 1492 (by decide +kernel) (by decide +kernel), hb_wp (q := (yX9_creates, 29)) 45 (by decide +kernel) (by decide +kernel)⟩
set_option maxHeartbeats 4000000 in
set_option maxRecDepth 20000 in
theorem c_X9_creates_b96 {G : hb_G} {l : Launch} {z : Bool} : ∀ (n : Nat) (x0 : Nat) (x3 : Int32) (x4 : Int32) (σ : hb_M) (r : (Int32 × hb_M)), f_X9_creates_b96 n x0 x3 x4 σ = some r → hb_T G l z mX9_creates 2 0 0 96 [(0, .ref x0), (3, .int x3), (4, .int x4)] [] σ (.inl (some (.int r.1)), r.2) := by
  intro n
  induction n with
  | zero =>
    intro x0 x3 x4 σ r h
    cases h
  | succ n ih =>
    intro x0 x3 x4 σ r h
    rw [f_X9_creates_b96] at h
    refine hs_iload dX9_creates_96 2 rfl ?_
    refine hs_bipush (v := (8 : Int32)) dX9_creates_98 (by decide) ?_
    refine hs_icmp_ge (tgt := 124) dX9_creates_100 (by decide) (fun hc1 => ?_) (fun hc1 => ?_)
    · rw [if_pos hc1] at h
      refine hs_iload_n dX9_creates_124 1 rfl ?_
      obtain rfl := Option.some.inj h
      exact hs_ireturn dX9_creates_125 rfl (by rfl) (fun _ => rfl)
    · rw [if_neg hc1] at h
      refine hs_aload_n dX9_creates_103 0 rfl ?_
      obtain ⟨r2, h2, h⟩ := hb_bind h
      refine hs_getR dX9_creates_104 lkX9_7 rfl h2 ?_
      refine hs_iload_n dX9_creates_107 1 rfl ?_
      obtain ⟨r3, h3, h⟩ := hb_bind h
      refine hs_callSi (μ' := mX9_at) (mc := 0) (ms := 0) (rc := 0) (rs := 0) (As := [.int x3]) (rest := [.ref r2]) dX9_creates_108 lmX9_103 okX9_at rfl (by decide) rfl (Nat.le_of_ble_eq_true rfl) (c_X9_at h3) ?_
      refine hs_iconst (v := (5 : Int32)) dX9_creates_111 (by decide) ?_
      refine hs_iadd dX9_creates_112 ?_
      refine hs_iload dX9_creates_113 2 rfl ?_
      refine hs_iadd dX9_creates_115 ?_
      refine hs_iconst (v := (-1 : Int32)) dX9_creates_116 (by decide) ?_
      obtain ⟨r4, h4, h⟩ := hb_bind h
      refine hs_iast dX9_creates_117 h4 ?_
      refine hs_iinc2 (k := (1 : Int32)) (lv' := [(4, .int (x4 + (1 : Int32))), (0, .ref x0), (3, .int x3)]) dX9_creates_118 (by decide) 2 rfl (by decide) rfl ?_
      refine hs_goto (tgt := 96) dX9_creates_121 (by decide) ?_
      refine hs_sub (lv' := [(0, .ref x0), (3, .int x3), (4, .int (x4 + (1 : Int32)))]) [1, 2, 0] rfl ?_
      exact ih _ _ _ _ _ h
set_option maxHeartbeats 4000000 in
set_option maxRecDepth 20000 in
theorem c_X9_creates_b2 {G : hb_G} {l : Launch} {z : Bool} : ∀ (n : Nat) (x0 : Nat) (x1 : Int32) (x2 : Int32) (x3 : Int32) (σ : hb_M) (r : (Int32 × hb_M)), f_X9_creates_b2 n x0 x1 x2 x3 σ = some r → hb_T G l z mX9_creates 2 0 0 2 [(0, .ref x0), (1, .int x1), (2, .int x2), (3, .int x3)] [] σ (.inl (some (.int r.1)), r.2) := by
  intro n
  induction n with
  | zero =>
    intro x0 x1 x2 x3 σ r h
    cases h
  | succ n ih =>
    intro x0 x1 x2 x3 σ r h
    rw [f_X9_creates_b2] at h
    refine hs_aload_n dX9_creates_2 0 rfl ?_
    refine hs_iload_n dX9_creates_3 3 rfl ?_
    obtain ⟨r1, h1, h⟩ := hb_bind h
    obtain ⟨h1, nf1, hb1⟩ := hb_on_at h1
    refine hs_callVi (μ' := mX9_isObject) (mc := 0) (ms := 0) (rc := 0) (rs := 0) (As := [.int x3]) (rest := []) (ci := 9) dX9_creates_4 lmX9_106 okX9_isObject rfl (by decide) rfl (Nat.le_of_ble_eq_true rfl) rfl hb1 (c_X9_isObject h1) ?_
    refine hs_if_eq (tgt := 16) dX9_creates_7 (by decide) (fun hc2 => ?_) (fun hc2 => ?_)
    · rw [if_pos hc2] at h
      refine hs_aload_n dX9_creates_16 0 rfl ?_
      obtain ⟨r3, h3, h⟩ := hb_bind h
      refine hs_getR dX9_creates_17 lkX9_7 rfl h3 ?_
      refine hs_iload_n dX9_creates_20 3 rfl ?_
      obtain ⟨r4, h4, h⟩ := hb_bind h
      refine hs_callSi (μ' := mX9_at) (mc := 0) (ms := 0) (rc := 0) (rs := 0) (As := [.int x3]) (rest := [.ref r3]) dX9_creates_21 lmX9_103 okX9_at rfl (by decide) rfl (Nat.le_of_ble_eq_true rfl) (c_X9_at h4) ?_
      refine hs_iconst (v := (0 : Int32)) dX9_creates_24 (by decide) ?_
      refine hs_iadd dX9_creates_25 ?_
      refine hs_aload_n dX9_creates_26 0 rfl ?_
      obtain ⟨r5, h5, h⟩ := hb_bind h
      refine hs_getR dX9_creates_27 lkX9_7 rfl h5 ?_
      refine hs_bipush (v := (31 : Int32)) dX9_creates_30 (by decide) ?_
      obtain ⟨r6, h6, h⟩ := hb_bind h
      refine hs_iald dX9_creates_32 h6 ?_
      obtain ⟨r7, h7, h⟩ := hb_bind h
      refine hs_iast dX9_creates_33 h7 ?_
      refine hs_aload_n dX9_creates_34 0 rfl ?_
      obtain ⟨r8, h8, h⟩ := hb_bind h
      refine hs_getR dX9_creates_35 lkX9_7 rfl h8 ?_
      refine hs_bipush (v := (31 : Int32)) dX9_creates_38 (by decide) ?_
      refine hs_dup2 dX9_creates_40 rfl rfl ?_
      obtain ⟨r9, h9, h⟩ := hb_bind h
      refine hs_iald dX9_creates_41 h9 ?_
      refine hs_iconst (v := (1 : Int32)) dX9_creates_42 (by decide) ?_
      refine hs_iadd dX9_creates_43 ?_
      obtain ⟨r10, h10, h⟩ := hb_bind h
      refine hs_iast dX9_creates_44 h10 ?_
      refine hs_aload_n dX9_creates_45 0 rfl ?_
      obtain ⟨r11, h11, h⟩ := hb_bind h
      refine hs_getR dX9_creates_46 lkX9_7 rfl h11 ?_
      refine hs_iload_n dX9_creates_49 3 rfl ?_
      obtain ⟨r12, h12, h⟩ := hb_bind h
      refine hs_callSi (μ' := mX9_at) (mc := 0) (ms := 0) (rc := 0) (rs := 0) (As := [.int x3]) (rest := [.ref r11]) dX9_creates_50 lmX9_103 okX9_at rfl (by decide) rfl (Nat.le_of_ble_eq_true rfl) (c_X9_at h12) ?_
      refine hs_iconst (v := (1 : Int32)) dX9_creates_53 (by decide) ?_
      refine hs_iadd dX9_creates_54 ?_
      refine hs_iload_n dX9_creates_55 1 rfl ?_
      obtain ⟨r13, h13, h⟩ := hb_bind h
      refine hs_iast dX9_creates_56 h13 ?_
      refine hs_aload_n dX9_creates_57 0 rfl ?_
      obtain ⟨r14, h14, h⟩ := hb_bind h
      refine hs_getR dX9_creates_58 lkX9_7 rfl h14 ?_
      refine hs_iload_n dX9_creates_61 3 rfl ?_
      obtain ⟨r15, h15, h⟩ := hb_bind h
      refine hs_callSi (μ' := mX9_at) (mc := 0) (ms := 0) (rc := 0) (rs := 0) (As := [.int x3]) (rest := [.ref r14]) dX9_creates_62 lmX9_103 okX9_at rfl (by decide) rfl (Nat.le_of_ble_eq_true rfl) (c_X9_at h15) ?_
      refine hs_iconst (v := (2 : Int32)) dX9_creates_65 (by decide) ?_
      refine hs_iadd dX9_creates_66 ?_
      refine hs_iload_n dX9_creates_67 2 rfl ?_
      obtain ⟨r16, h16, h⟩ := hb_bind h
      refine hs_iast dX9_creates_68 h16 ?_
      refine hs_aload_n dX9_creates_69 0 rfl ?_
      obtain ⟨r17, h17, h⟩ := hb_bind h
      refine hs_getR dX9_creates_70 lkX9_7 rfl h17 ?_
      refine hs_iload_n dX9_creates_73 3 rfl ?_
      obtain ⟨r18, h18, h⟩ := hb_bind h
      refine hs_callSi (μ' := mX9_at) (mc := 0) (ms := 0) (rc := 0) (rs := 0) (As := [.int x3]) (rest := [.ref r17]) dX9_creates_74 lmX9_103 okX9_at rfl (by decide) rfl (Nat.le_of_ble_eq_true rfl) (c_X9_at h18) ?_
      refine hs_iconst (v := (3 : Int32)) dX9_creates_77 (by decide) ?_
      refine hs_iadd dX9_creates_78 ?_
      refine hs_iconst (v := (0 : Int32)) dX9_creates_79 (by decide) ?_
      obtain ⟨r19, h19, h⟩ := hb_bind h
      refine hs_iast dX9_creates_80 h19 ?_
      refine hs_aload_n dX9_creates_81 0 rfl ?_
      obtain ⟨r20, h20, h⟩ := hb_bind h
      refine hs_getR dX9_creates_82 lkX9_7 rfl h20 ?_
      refine hs_iload_n dX9_creates_85 3 rfl ?_
      obtain ⟨r21, h21, h⟩ := hb_bind h
      refine hs_callSi (μ' := mX9_at) (mc := 0) (ms := 0) (rc := 0) (rs := 0) (As := [.int x3]) (rest := [.ref r20]) dX9_creates_86 lmX9_103 okX9_at rfl (by decide) rfl (Nat.le_of_ble_eq_true rfl) (c_X9_at h21) ?_
      refine hs_iconst (v := (4 : Int32)) dX9_creates_89 (by decide) ?_
      refine hs_iadd dX9_creates_90 ?_
      refine hs_iconst (v := (0 : Int32)) dX9_creates_91 (by decide) ?_
      obtain ⟨r22, h22, h⟩ := hb_bind h
      refine hs_iast dX9_creates_92 h22 ?_
      refine hs_iconst (v := (0 : Int32)) dX9_creates_93 (by decide) ?_
      refine hs_istore (lv' := [(4, .int (0 : Int32)), (0, .ref x0), (1, .int x1), (2, .int x2), (3, .int x3)]) dX9_creates_94 (by decide) rfl ?_
      refine hs_sub (lv' := [(0, .ref x0), (3, .int x3), (4, .int (0 : Int32))]) [1, 4, 0] rfl ?_
      exact c_X9_creates_b96 hb_FU _ _ _ _ _ h
    · rw [if_neg hc2] at h
      refine hs_iinc2 (k := (1 : Int32)) (lv' := [(3, .int (x3 + (1 : Int32))), (0, .ref x0), (1, .int x1), (2, .int x2)]) dX9_creates_10 (by decide) 3 rfl (by decide) rfl ?_
      refine hs_goto (tgt := 2) dX9_creates_13 (by decide) ?_
      refine hs_sub (lv' := [(0, .ref x0), (1, .int x1), (2, .int x2), (3, .int (x3 + (1 : Int32)))]) [1, 2, 3, 0] rfl ?_
      exact ih _ _ _ _ _ _ h
set_option maxHeartbeats 4000000 in
set_option maxRecDepth 20000 in
theorem c_X9_creates {G : hb_G} {l : Launch} {z : Bool} {x0 : Nat} {x1 : Int32} {x2 : Int32} {σ : hb_M} {r : (Int32 × hb_M)} (h : f_X9_creates x0 x1 x2 σ = some r) : hb_Call G l z 2 0 0 mX9_creates [.ref x0, .int x1, .int x2] σ (.inl (some (.int r.1)), r.2) := by
  refine hb_met (by decide) (Nat.le_of_ble_eq_true rfl) ?_
  unfold f_X9_creates at h
  refine hs_iconst (v := (0 : Int32)) dX9_creates_0 (by decide) ?_
  refine hs_istore_n (lv' := [(3, .int (0 : Int32)), (0, .ref x0), (1, .int x1), (2, .int x2)]) dX9_creates_1 (by decide) rfl ?_
  refine hs_sub (lv' := [(0, .ref x0), (1, .int x1), (2, .int x2), (3, .int (0 : Int32))]) [1, 2, 3, 0] rfl ?_
  exact c_X9_creates_b2 hb_FU _ _ _ _ _ _ h
def mX9_instanceRefusal : hb_Y := (yX9_instanceRefusal, cX9_instanceRefusal, 2, (some .int), [], false)
theorem okX9_instanceRefusal : hb_okV mX9_instanceRefusal 1 := ⟨⟨hb_w 11 (by decide +kernel) (by decide +kernel), hb_w 1478 (by decide +kernel) (by decide +kernel), ⟨by decide +kernel, by decide +kernel, by decide +kernel⟩, by decide⟩, hb_w 1477 (by decide +kernel) (by decide +kernel), hb_wp (q := (yX9_instanceRefusal, 29)) 42 (by decide +kernel) (by decide +kernel)⟩
set_option maxHeartbeats 4000000 in
set_option maxRecDepth 20000 in
theorem c_X9_instanceRefusal {G : hb_G} {l : Launch} {z : Bool} {x0 : Nat} {x1 : Int32} {σ : hb_M} {r : (Int32 × hb_M)} (h : f_X9_instanceRefusal x0 x1 σ = some r) : hb_Call G l z 3 0 0 mX9_instanceRefusal [.ref x0, .int x1] σ (.inl (some (.int r.1)), r.2) := by
  refine hb_met (by decide) (Nat.le_of_ble_eq_true rfl) ?_
  unfold f_X9_instanceRefusal at h
  refine hs_aload_n dX9_instanceRefusal_0 0 rfl ?_
  refine hs_iload_n dX9_instanceRefusal_1 1 rfl ?_
  obtain ⟨r1, h1, h⟩ := hb_bind h
  obtain ⟨h1, nf1, hb1⟩ := hb_on_at h1
  refine hs_callVi (μ' := mX9_isClass) (mc := 0) (ms := 0) (rc := 0) (rs := 0) (As := [.int x1]) (rest := []) (ci := 9) dX9_instanceRefusal_2 lmX9_86 okX9_isClass rfl (by decide) rfl (Nat.le_of_ble_eq_true rfl) rfl hb1 (c_X9_isClass h1) ?_
  refine hs_if_ne (tgt := 12) dX9_instanceRefusal_5 (by decide) (fun hc2 => ?_) (fun hc2 => ?_)
  · rw [if_neg hc2] at h
    refine hs_aload_n dX9_instanceRefusal_12 0 rfl ?_
    obtain ⟨r3, h3, h⟩ := hb_bind h
    obtain ⟨h3, nf3, hb3⟩ := hb_on_at h3
    refine hs_callVi (μ' := mX9_many) (mc := 0) (ms := 0) (rc := 0) (rs := 0) (As := []) (rest := []) (ci := 9) dX9_instanceRefusal_13 lmX9_112 okX9_many rfl (by decide) rfl (Nat.le_of_ble_eq_true rfl) rfl hb3 (c_X9_many h3) ?_
    refine hs_bipush (v := (40 : Int32)) dX9_instanceRefusal_16 (by decide) ?_
    refine hs_icmp_ne (tgt := 25) dX9_instanceRefusal_18 (by decide) (fun hc4 => ?_) (fun hc4 => ?_)
    · rw [if_neg hc4] at h
      refine hs_iconst (v := (0 : Int32)) dX9_instanceRefusal_25 (by decide) ?_
      obtain rfl := Option.some.inj h
      exact hs_ireturn dX9_instanceRefusal_26 rfl (by rfl) (fun _ => rfl)
    · rw [if_pos hc4] at h
      refine hs_iconst (v := (2 : Int32)) dX9_instanceRefusal_21 (by decide) ?_
      refine hs_goto (tgt := 26) dX9_instanceRefusal_22 (by decide) ?_
      obtain rfl := Option.some.inj h
      exact hs_ireturn dX9_instanceRefusal_26 rfl (by rfl) (fun _ => rfl)
  · rw [if_pos hc2] at h
    refine hs_iconst (v := (1 : Int32)) dX9_instanceRefusal_8 (by decide) ?_
    refine hs_goto (tgt := 26) dX9_instanceRefusal_9 (by decide) ?_
    obtain rfl := Option.some.inj h
    exact hs_ireturn dX9_instanceRefusal_26 rfl (by rfl) (fun _ => rfl)
def mX9_newInstance : hb_Y := (yX9_newInstance, cX9_newInstance, 2, (some .int), [], false)
set_option maxHeartbeats 4000000 in
set_option maxRecDepth 20000 in
theorem c_X9_newInstance {G : hb_G} {l : Launch} {z : Bool} {x0 : Nat} {x1 : Int32} {σ : hb_M} {r : (Int32 × hb_M)} (h : f_X9_newInstance x0 x1 σ = some r) : hb_Call G l z 4 0 0 mX9_newInstance [.ref x0, .int x1] σ (.inl (some (.int r.1)), r.2) := by
  refine hb_met (by decide) (Nat.le_of_ble_eq_true rfl) ?_
  unfold f_X9_newInstance at h
  refine hs_aload_n dX9_newInstance_0 0 rfl ?_
  refine hs_aload_n dX9_newInstance_1 0 rfl ?_
  refine hs_iload_n dX9_newInstance_2 1 rfl ?_
  obtain ⟨r1, h1, h⟩ := hb_bind h
  obtain ⟨h1, nf1, hb1⟩ := hb_on_at h1
  refine hs_callVi (μ' := mX9_instanceRefusal) (mc := 0) (ms := 0) (rc := 0) (rs := 0) (As := [.int x1]) (rest := [.ref x0]) (ci := 9) dX9_newInstance_3 lmX9_116 okX9_instanceRefusal rfl (by decide) rfl (Nat.le_of_ble_eq_true rfl) rfl hb1 (c_X9_instanceRefusal h1) ?_
  obtain ⟨r2, h2, h⟩ := hb_bind h
  obtain ⟨h2, nf2, hb2⟩ := hb_on_at h2
  refine hs_callVi (μ' := mX9_refused) (mc := 0) (ms := 0) (rc := 0) (rs := 0) (As := [.int r1.1]) (rest := []) (ci := 9) dX9_newInstance_6 lmX9_74 okX9_refused rfl (by decide) rfl (Nat.le_of_ble_eq_true rfl) rfl hb2 (c_X9_refused h2) ?_
  refine hs_if_eq (tgt := 14) dX9_newInstance_9 (by decide) (fun hc3 => ?_) (fun hc3 => ?_)
  · rw [if_pos hc3] at h
    refine hs_aload_n dX9_newInstance_14 0 rfl ?_
    obtain ⟨r4, h4, h⟩ := hb_bind h
    obtain ⟨h4, nf4, hb4⟩ := hb_on_at h4
    refine hs_callVv (μ' := mX9_saves) (mc := 0) (ms := 0) (rc := 0) (rs := 0) (As := []) (rest := []) (ci := 9) dX9_newInstance_15 lmX9_89 okX9_saves rfl (by decide) rfl (Nat.le_of_ble_eq_true rfl) rfl hb4 (c_X9_saves h4) ?_
    refine hs_aload_n dX9_newInstance_18 0 rfl ?_
    refine hs_iload_n dX9_newInstance_19 1 rfl ?_
    refine hs_aload_n dX9_newInstance_20 0 rfl ?_
    refine hs_iload_n dX9_newInstance_21 1 rfl ?_
    obtain ⟨r5, h5, h⟩ := hb_bind h
    obtain ⟨h5, nf5, hb5⟩ := hb_on_at h5
    refine hs_callVi (μ' := mX9_fieldsOf) (mc := 0) (ms := 0) (rc := 0) (rs := 0) (As := [.int x1]) (rest := [.int x1, .ref x0]) (ci := 9) dX9_newInstance_22 lmX9_82 okX9_fieldsOf rfl (by decide) rfl (Nat.le_of_ble_eq_true rfl) rfl hb5 (c_X9_fieldsOf h5) ?_
    obtain ⟨r6, h6, h⟩ := hb_bind h
    obtain ⟨h6, nf6, hb6⟩ := hb_on_at h6
    refine hs_callVi (μ' := mX9_creates) (mc := 0) (ms := 0) (rc := 0) (rs := 0) (As := [.int x1, .int r5.1]) (rest := []) (ci := 9) dX9_newInstance_25 lmX9_119 okX9_creates rfl (by decide) rfl (Nat.le_of_ble_eq_true rfl) rfl hb6 (c_X9_creates h6) ?_
    obtain rfl := Option.some.inj h
    exact hs_ireturn dX9_newInstance_28 rfl (by rfl) (fun _ => rfl)
  · rw [if_neg hc3] at h
    refine hs_iconst (v := (0 : Int32)) dX9_newInstance_12 (by decide) ?_
    obtain rfl := Option.some.inj h
    exact hs_ireturn dX9_newInstance_13 rfl (by rfl) (fun _ => rfl)
def mX9_arrayRefusal : hb_Y := (yX9_arrayRefusal, cX9_arrayRefusal, 2, (some .int), [], false)
theorem okX9_arrayRefusal : hb_okV mX9_arrayRefusal 1 := ⟨⟨hb_w 11 (by decide +kernel) (by decide +kernel), hb_w 1501 (by decide +kernel) (by decide +kernel), ⟨by decide +kernel, by decide +kernel, by decide +kernel⟩, by decide⟩, hb_w 1500 (by decide +kernel) (by decide +kernel), hb_wp (q := (yX9_arrayRefusal, 29)) 46 (by decide +kernel) (by decide +kernel)⟩
set_option maxHeartbeats 4000000 in
set_option maxRecDepth 20000 in
theorem c_X9_arrayRefusal {G : hb_G} {l : Launch} {z : Bool} {x0 : Nat} {x1 : Int32} {σ : hb_M} {r : (Int32 × hb_M)} (h : f_X9_arrayRefusal x0 x1 σ = some r) : hb_Call G l z 3 0 0 mX9_arrayRefusal [.ref x0, .int x1] σ (.inl (some (.int r.1)), r.2) := by
  refine hb_met (by decide) (Nat.le_of_ble_eq_true rfl) ?_
  unfold f_X9_arrayRefusal at h
  refine hs_iload_n dX9_arrayRefusal_0 1 rfl ?_
  refine hs_iconst (v := (0 : Int32)) dX9_arrayRefusal_1 (by decide) ?_
  refine hs_bipush (v := (8 : Int32)) dX9_arrayRefusal_2 (by decide) ?_
  obtain ⟨r1, h1, h⟩ := hb_bind h
  refine hs_callSi (μ' := mX9_within) (mc := 0) (ms := 0) (rc := 0) (rs := 0) (As := [.int x1, .int (0 : Int32), .int (8 : Int32)]) (rest := []) dX9_arrayRefusal_4 lmX9_78 okX9_within rfl (by decide) rfl (Nat.le_of_ble_eq_true rfl) (c_X9_within h1) ?_
  refine hs_if_ne (tgt := 14) dX9_arrayRefusal_7 (by decide) (fun hc2 => ?_) (fun hc2 => ?_)
  · rw [if_neg hc2] at h
    refine hs_aload_n dX9_arrayRefusal_14 0 rfl ?_
    obtain ⟨r3, h3, h⟩ := hb_bind h
    obtain ⟨h3, nf3, hb3⟩ := hb_on_at h3
    refine hs_callVi (μ' := mX9_many) (mc := 0) (ms := 0) (rc := 0) (rs := 0) (As := []) (rest := []) (ci := 9) dX9_arrayRefusal_15 lmX9_112 okX9_many rfl (by decide) rfl (Nat.le_of_ble_eq_true rfl) rfl hb3 (c_X9_many h3) ?_
    refine hs_bipush (v := (40 : Int32)) dX9_arrayRefusal_18 (by decide) ?_
    refine hs_icmp_ne (tgt := 27) dX9_arrayRefusal_20 (by decide) (fun hc4 => ?_) (fun hc4 => ?_)
    · rw [if_neg hc4] at h
      refine hs_iconst (v := (0 : Int32)) dX9_arrayRefusal_27 (by decide) ?_
      obtain rfl := Option.some.inj h
      exact hs_ireturn dX9_arrayRefusal_28 rfl (by rfl) (fun _ => rfl)
    · rw [if_pos hc4] at h
      refine hs_iconst (v := (2 : Int32)) dX9_arrayRefusal_23 (by decide) ?_
      refine hs_goto (tgt := 28) dX9_arrayRefusal_24 (by decide) ?_
      obtain rfl := Option.some.inj h
      exact hs_ireturn dX9_arrayRefusal_28 rfl (by rfl) (fun _ => rfl)
  · rw [if_pos hc2] at h
    refine hs_iconst (v := (1 : Int32)) dX9_arrayRefusal_10 (by decide) ?_
    refine hs_goto (tgt := 28) dX9_arrayRefusal_11 (by decide) ?_
    obtain rfl := Option.some.inj h
    exact hs_ireturn dX9_arrayRefusal_28 rfl (by rfl) (fun _ => rfl)
def mX9_newArray : hb_Y := (yX9_newArray, cX9_newArray, 2, (some .int), [], false)
set_option maxHeartbeats 4000000 in
set_option maxRecDepth 20000 in
theorem c_X9_newArray {G : hb_G} {l : Launch} {z : Bool} {x0 : Nat} {x1 : Int32} {σ : hb_M} {r : (Int32 × hb_M)} (h : f_X9_newArray x0 x1 σ = some r) : hb_Call G l z 4 0 0 mX9_newArray [.ref x0, .int x1] σ (.inl (some (.int r.1)), r.2) := by
  refine hb_met (by decide) (Nat.le_of_ble_eq_true rfl) ?_
  unfold f_X9_newArray at h
  refine hs_aload_n dX9_newArray_0 0 rfl ?_
  refine hs_aload_n dX9_newArray_1 0 rfl ?_
  refine hs_iload_n dX9_newArray_2 1 rfl ?_
  obtain ⟨r1, h1, h⟩ := hb_bind h
  obtain ⟨h1, nf1, hb1⟩ := hb_on_at h1
  refine hs_callVi (μ' := mX9_arrayRefusal) (mc := 0) (ms := 0) (rc := 0) (rs := 0) (As := [.int x1]) (rest := [.ref x0]) (ci := 9) dX9_newArray_3 lmX9_122 okX9_arrayRefusal rfl (by decide) rfl (Nat.le_of_ble_eq_true rfl) rfl hb1 (c_X9_arrayRefusal h1) ?_
  obtain ⟨r2, h2, h⟩ := hb_bind h
  obtain ⟨h2, nf2, hb2⟩ := hb_on_at h2
  refine hs_callVi (μ' := mX9_refused) (mc := 0) (ms := 0) (rc := 0) (rs := 0) (As := [.int r1.1]) (rest := []) (ci := 9) dX9_newArray_6 lmX9_74 okX9_refused rfl (by decide) rfl (Nat.le_of_ble_eq_true rfl) rfl hb2 (c_X9_refused h2) ?_
  refine hs_if_eq (tgt := 14) dX9_newArray_9 (by decide) (fun hc3 => ?_) (fun hc3 => ?_)
  · rw [if_pos hc3] at h
    refine hs_aload_n dX9_newArray_14 0 rfl ?_
    obtain ⟨r4, h4, h⟩ := hb_bind h
    obtain ⟨h4, nf4, hb4⟩ := hb_on_at h4
    refine hs_callVv (μ' := mX9_saves) (mc := 0) (ms := 0) (rc := 0) (rs := 0) (As := []) (rest := []) (ci := 9) dX9_newArray_15 lmX9_89 okX9_saves rfl (by decide) rfl (Nat.le_of_ble_eq_true rfl) rfl hb4 (c_X9_saves h4) ?_
    refine hs_aload_n dX9_newArray_18 0 rfl ?_
    refine hs_bipush (v := (10 : Int32)) dX9_newArray_19 (by decide) ?_
    refine hs_iload_n dX9_newArray_21 1 rfl ?_
    obtain ⟨r5, h5, h⟩ := hb_bind h
    obtain ⟨h5, nf5, hb5⟩ := hb_on_at h5
    refine hs_callVi (μ' := mX9_creates) (mc := 0) (ms := 0) (rc := 0) (rs := 0) (As := [.int (10 : Int32), .int x1]) (rest := []) (ci := 9) dX9_newArray_22 lmX9_119 okX9_creates rfl (by decide) rfl (Nat.le_of_ble_eq_true rfl) rfl hb5 (c_X9_creates h5) ?_
    obtain rfl := Option.some.inj h
    exact hs_ireturn dX9_newArray_25 rfl (by rfl) (fun _ => rfl)
  · rw [if_neg hc3] at h
    refine hs_iconst (v := (0 : Int32)) dX9_newArray_12 (by decide) ?_
    obtain rfl := Option.some.inj h
    exact hs_ireturn dX9_newArray_13 rfl (by rfl) (fun _ => rfl)
def mX9_newHolder : hb_Y := (yX9_newHolder, cX9_newHolder, 1, (some .int), [], false)
set_option maxHeartbeats 4000000 in
set_option maxRecDepth 20000 in
theorem c_X9_newHolder_b15 {G : hb_G} {l : Launch} {z : Bool}  {x0 : Nat} {s0 : Nat} {s1 : Int32} {σ : hb_M} {r : (Int32 × hb_M)} (h : f_X9_newHolder_b15 x0 s0 s1 σ = some r) : hb_T G l z mX9_newHolder 3 0 0 15 [(0, .ref x0)] [.int s1, .ref s0] σ (.inl (some (.int r.1)), r.2) := by
  unfold f_X9_newHolder_b15 at h
  obtain ⟨r1, h1, h⟩ := hb_bind h
  obtain ⟨h1, nf1, hb1⟩ := hb_on_at h1
  refine hs_callVi (μ' := mX9_refused) (mc := 0) (ms := 0) (rc := 0) (rs := 0) (As := [.int s1]) (rest := []) (ci := 9) dX9_newHolder_15 lmX9_74 okX9_refused rfl (by decide) rfl (Nat.le_of_ble_eq_true rfl) rfl hb1 (c_X9_refused h1) ?_
  refine hs_if_eq (tgt := 23) dX9_newHolder_18 (by decide) (fun hc2 => ?_) (fun hc2 => ?_)
  · rw [if_pos hc2] at h
    refine hs_aload_n dX9_newHolder_23 0 rfl ?_
    obtain ⟨r3, h3, h⟩ := hb_bind h
    obtain ⟨h3, nf3, hb3⟩ := hb_on_at h3
    refine hs_callVv (μ' := mX9_saves) (mc := 0) (ms := 0) (rc := 0) (rs := 0) (As := []) (rest := []) (ci := 9) dX9_newHolder_24 lmX9_89 okX9_saves rfl (by decide) rfl (Nat.le_of_ble_eq_true rfl) rfl hb3 (c_X9_saves h3) ?_
    refine hs_aload_n dX9_newHolder_27 0 rfl ?_
    refine hs_bipush (v := (11 : Int32)) dX9_newHolder_28 (by decide) ?_
    refine hs_iconst (v := (1 : Int32)) dX9_newHolder_30 (by decide) ?_
    obtain ⟨r4, h4, h⟩ := hb_bind h
    obtain ⟨h4, nf4, hb4⟩ := hb_on_at h4
    refine hs_callVi (μ' := mX9_creates) (mc := 0) (ms := 0) (rc := 0) (rs := 0) (As := [.int (11 : Int32), .int (1 : Int32)]) (rest := []) (ci := 9) dX9_newHolder_31 lmX9_119 okX9_creates rfl (by decide) rfl (Nat.le_of_ble_eq_true rfl) rfl hb4 (c_X9_creates h4) ?_
    obtain rfl := Option.some.inj h
    exact hs_ireturn dX9_newHolder_34 rfl (by rfl) (fun _ => rfl)
  · rw [if_neg hc2] at h
    refine hs_iconst (v := (0 : Int32)) dX9_newHolder_21 (by decide) ?_
    obtain rfl := Option.some.inj h
    exact hs_ireturn dX9_newHolder_22 rfl (by rfl) (fun _ => rfl)
set_option maxHeartbeats 4000000 in
set_option maxRecDepth 20000 in
theorem c_X9_newHolder {G : hb_G} {l : Launch} {z : Bool} {x0 : Nat} {σ : hb_M} {r : (Int32 × hb_M)} (h : f_X9_newHolder x0 σ = some r) : hb_Call G l z 3 0 0 mX9_newHolder [.ref x0] σ (.inl (some (.int r.1)), r.2) := by
  refine hb_met (by decide) (Nat.le_of_ble_eq_true rfl) ?_
  unfold f_X9_newHolder at h
  refine hs_aload_n dX9_newHolder_0 0 rfl ?_
  refine hs_aload_n dX9_newHolder_1 0 rfl ?_
  obtain ⟨r1, h1, h⟩ := hb_bind h
  obtain ⟨h1, nf1, hb1⟩ := hb_on_at h1
  refine hs_callVi (μ' := mX9_many) (mc := 0) (ms := 0) (rc := 0) (rs := 0) (As := []) (rest := [.ref x0]) (ci := 9) dX9_newHolder_2 lmX9_112 okX9_many rfl (by decide) rfl (Nat.le_of_ble_eq_true rfl) rfl hb1 (c_X9_many h1) ?_
  refine hs_bipush (v := (40 : Int32)) dX9_newHolder_5 (by decide) ?_
  refine hs_icmp_ne (tgt := 14) dX9_newHolder_7 (by decide) (fun hc2 => ?_) (fun hc2 => ?_)
  · rw [if_neg hc2] at h
    refine hs_iconst (v := (0 : Int32)) dX9_newHolder_14 (by decide) ?_
    refine hs_sub (lv' := [(0, .ref x0)]) [0] rfl ?_
    exact c_X9_newHolder_b15 h
  · rw [if_pos hc2] at h
    refine hs_iconst (v := (1 : Int32)) dX9_newHolder_10 (by decide) ?_
    refine hs_goto (tgt := 15) dX9_newHolder_11 (by decide) ?_
    refine hs_sub (lv' := [(0, .ref x0)]) [0] rfl ?_
    exact c_X9_newHolder_b15 h
def mX9_setRefusal : hb_Y := (yX9_setRefusal, cX9_setRefusal, 4, (some .int), [], false)
theorem okX9_setRefusal : hb_okV mX9_setRefusal 3 := ⟨⟨hb_w 11 (by decide +kernel) (by decide +kernel), hb_w 1513 (by decide +kernel) (by decide +kernel), ⟨by decide +kernel, by decide +kernel, by decide +kernel⟩, by decide⟩, hb_w 1512 (by decide +kernel) (by decide +kernel), hb_wp (q := (yX9_setRefusal, 29)) 47 (by decide +kernel) (by decide +kernel)⟩
set_option maxHeartbeats 4000000 in
set_option maxRecDepth 20000 in
theorem c_X9_setRefusal {G : hb_G} {l : Launch} {z : Bool} {x0 : Nat} {x1 : Int32} {x2 : Int32} {x3 : Int32} {σ : hb_M} {r : (Int32 × hb_M)} (h : f_X9_setRefusal x0 x1 x2 x3 σ = some r) : hb_Call G l z 3 0 0 mX9_setRefusal [.ref x0, .int x1, .int x2, .int x3] σ (.inl (some (.int r.1)), r.2) := by
  refine hb_met (by decide) (Nat.le_of_ble_eq_true rfl) ?_
  unfold f_X9_setRefusal at h
  refine hs_aload_n dX9_setRefusal_0 0 rfl ?_
  refine hs_iload_n dX9_setRefusal_1 1 rfl ?_
  refine hs_iload_n dX9_setRefusal_2 2 rfl ?_
  obtain ⟨r1, h1, h⟩ := hb_bind h
  obtain ⟨h1, nf1, hb1⟩ := hb_on_at h1
  refine hs_callVi (μ' := mX9_isSlot) (mc := 0) (ms := 0) (rc := 0) (rs := 0) (As := [.int x1, .int x2]) (rest := []) (ci := 9) dX9_setRefusal_3 lmX9_125 okX9_isSlot rfl (by decide) rfl (Nat.le_of_ble_eq_true rfl) rfl hb1 (c_X9_isSlot h1) ?_
  refine hs_if_eq (tgt := 26) dX9_setRefusal_6 (by decide) (fun hc2 => ?_) (fun hc2 => ?_)
  · rw [if_pos hc2] at h
    refine hs_iconst (v := (1 : Int32)) dX9_setRefusal_26 (by decide) ?_
    obtain rfl := Option.some.inj h
    exact hs_ireturn dX9_setRefusal_27 rfl (by rfl) (fun _ => rfl)
  · rw [if_neg hc2] at h
    refine hs_iload_n dX9_setRefusal_9 3 rfl ?_
    refine hs_iconst (v := (-1 : Int32)) dX9_setRefusal_10 (by decide) ?_
    refine hs_icmp_eq (tgt := 22) dX9_setRefusal_11 (by decide) (fun hc3 => ?_) (fun hc3 => ?_)
    · rw [if_pos hc3] at h
      refine hs_iconst (v := (0 : Int32)) dX9_setRefusal_22 (by decide) ?_
      refine hs_goto (tgt := 27) dX9_setRefusal_23 (by decide) ?_
      obtain rfl := Option.some.inj h
      exact hs_ireturn dX9_setRefusal_27 rfl (by rfl) (fun _ => rfl)
    · rw [if_neg hc3] at h
      refine hs_aload_n dX9_setRefusal_14 0 rfl ?_
      refine hs_iload_n dX9_setRefusal_15 3 rfl ?_
      obtain ⟨r4, h4, h⟩ := hb_bind h
      obtain ⟨h4, nf4, hb4⟩ := hb_on_at h4
      refine hs_callVi (μ' := mX9_isObject) (mc := 0) (ms := 0) (rc := 0) (rs := 0) (As := [.int x3]) (rest := []) (ci := 9) dX9_setRefusal_16 lmX9_106 okX9_isObject rfl (by decide) rfl (Nat.le_of_ble_eq_true rfl) rfl hb4 (c_X9_isObject h4) ?_
      refine hs_if_eq (tgt := 26) dX9_setRefusal_19 (by decide) (fun hc5 => ?_) (fun hc5 => ?_)
      · rw [if_pos hc5] at h
        refine hs_iconst (v := (1 : Int32)) dX9_setRefusal_26 (by decide) ?_
        obtain rfl := Option.some.inj h
        exact hs_ireturn dX9_setRefusal_27 rfl (by rfl) (fun _ => rfl)
      · rw [if_neg hc5] at h
        refine hs_iconst (v := (0 : Int32)) dX9_setRefusal_22 (by decide) ?_
        refine hs_goto (tgt := 27) dX9_setRefusal_23 (by decide) ?_
        obtain rfl := Option.some.inj h
        exact hs_ireturn dX9_setRefusal_27 rfl (by rfl) (fun _ => rfl)
def mX9_set : hb_Y := (yX9_set, cX9_set, 5, (some .int), [], false)
set_option maxHeartbeats 4000000 in
set_option maxRecDepth 20000 in
theorem c_X9_set {G : hb_G} {l : Launch} {z : Bool} {x0 : Nat} {x1 : Int32} {x2 : Int32} {x3 : Int32} {σ : hb_M} {r : (Int32 × hb_M)} (h : f_X9_set x0 x1 x2 x3 σ = some r) : hb_Call G l z 4 0 0 mX9_set [.ref x0, .int x1, .int x2, .int x3] σ (.inl (some (.int r.1)), r.2) := by
  refine hb_met (by decide) (Nat.le_of_ble_eq_true rfl) ?_
  unfold f_X9_set at h
  refine hs_aload_n dX9_set_0 0 rfl ?_
  refine hs_aload_n dX9_set_1 0 rfl ?_
  refine hs_iload_n dX9_set_2 1 rfl ?_
  refine hs_iload_n dX9_set_3 2 rfl ?_
  refine hs_iload_n dX9_set_4 3 rfl ?_
  obtain ⟨r1, h1, h⟩ := hb_bind h
  obtain ⟨h1, nf1, hb1⟩ := hb_on_at h1
  refine hs_callVi (μ' := mX9_setRefusal) (mc := 0) (ms := 0) (rc := 0) (rs := 0) (As := [.int x1, .int x2, .int x3]) (rest := [.ref x0]) (ci := 9) dX9_set_5 lmX9_128 okX9_setRefusal rfl (by decide) rfl (Nat.le_of_ble_eq_true rfl) rfl hb1 (c_X9_setRefusal h1) ?_
  obtain ⟨r2, h2, h⟩ := hb_bind h
  obtain ⟨h2, nf2, hb2⟩ := hb_on_at h2
  refine hs_callVi (μ' := mX9_refused) (mc := 0) (ms := 0) (rc := 0) (rs := 0) (As := [.int r1.1]) (rest := []) (ci := 9) dX9_set_8 lmX9_74 okX9_refused rfl (by decide) rfl (Nat.le_of_ble_eq_true rfl) rfl hb2 (c_X9_refused h2) ?_
  refine hs_if_eq (tgt := 16) dX9_set_11 (by decide) (fun hc3 => ?_) (fun hc3 => ?_)
  · rw [if_pos hc3] at h
    refine hs_aload_n dX9_set_16 0 rfl ?_
    obtain ⟨r4, h4, h⟩ := hb_bind h
    obtain ⟨h4, nf4, hb4⟩ := hb_on_at h4
    refine hs_callVv (μ' := mX9_saves) (mc := 0) (ms := 0) (rc := 0) (rs := 0) (As := []) (rest := []) (ci := 9) dX9_set_17 lmX9_89 okX9_saves rfl (by decide) rfl (Nat.le_of_ble_eq_true rfl) rfl hb4 (c_X9_saves h4) ?_
    refine hs_aload_n dX9_set_20 0 rfl ?_
    obtain ⟨r5, h5, h⟩ := hb_bind h
    refine hs_getR dX9_set_21 lkX9_7 rfl h5 ?_
    refine hs_iload_n dX9_set_24 1 rfl ?_
    obtain ⟨r6, h6, h⟩ := hb_bind h
    refine hs_callSi (μ' := mX9_at) (mc := 0) (ms := 0) (rc := 0) (rs := 0) (As := [.int x1]) (rest := [.ref r5]) dX9_set_25 lmX9_103 okX9_at rfl (by decide) rfl (Nat.le_of_ble_eq_true rfl) (c_X9_at h6) ?_
    refine hs_iconst (v := (5 : Int32)) dX9_set_28 (by decide) ?_
    refine hs_iadd dX9_set_29 ?_
    refine hs_iload_n dX9_set_30 2 rfl ?_
    refine hs_iadd dX9_set_31 ?_
    obtain ⟨r7, h7, h⟩ := hb_bind h
    refine hs_iald dX9_set_32 h7 ?_
    refine hs_istore (lv' := [(4, .int r7), (0, .ref x0), (1, .int x1), (2, .int x2), (3, .int x3)]) dX9_set_33 (by decide) rfl ?_
    refine hs_aload_n dX9_set_35 1 rfl ?_
    obtain ⟨r8, h8, h⟩ := hb_bind h
    refine hs_getR dX9_set_36 lkX9_7 rfl h8 ?_
    refine hs_iload_n dX9_set_39 2 rfl ?_
    obtain ⟨r9, h9, h⟩ := hb_bind h
    refine hs_callSi (μ' := mX9_at) (mc := 0) (ms := 0) (rc := 0) (rs := 0) (As := [.int x1]) (rest := [.ref r8]) dX9_set_40 lmX9_103 okX9_at rfl (by decide) rfl (Nat.le_of_ble_eq_true rfl) (c_X9_at h9) ?_
    refine hs_iconst (v := (5 : Int32)) dX9_set_43 (by decide) ?_
    refine hs_iadd dX9_set_44 ?_
    refine hs_iload_n dX9_set_45 3 rfl ?_
    refine hs_iadd dX9_set_46 ?_
    refine hs_iload_n dX9_set_47 4 rfl ?_
    obtain ⟨r10, h10, h⟩ := hb_bind h
    refine hs_iast dX9_set_48 h10 ?_
    refine hs_iload dX9_set_49 0 rfl ?_
    obtain rfl := Option.some.inj h
    exact hs_ireturn dX9_set_51 rfl (by rfl) (fun _ => rfl)
  · rw [if_neg hc3] at h
    refine hs_iconst (v := (0 : Int32)) dX9_set_14 (by decide) ?_
    obtain rfl := Option.some.inj h
    exact hs_ireturn dX9_set_15 rfl (by rfl) (fun _ => rfl)
def mX9_get : hb_Y := (yX9_get, cX9_get, 3, (some .int), [], false)
set_option maxHeartbeats 4000000 in
set_option maxRecDepth 20000 in
theorem c_X9_get_b15 {G : hb_G} {l : Launch} {z : Bool}  {x0 : Nat} {x1 : Int32} {x2 : Int32} {s0 : Nat} {s1 : Int32} {σ : hb_M} {r : (Int32 × hb_M)} (h : f_X9_get_b15 x0 x1 x2 s0 s1 σ = some r) : hb_T G l z mX9_get 3 0 0 15 [(0, .ref x0), (1, .int x1), (2, .int x2)] [.int s1, .ref s0] σ (.inl (some (.int r.1)), r.2) := by
  unfold f_X9_get_b15 at h
  obtain ⟨r1, h1, h⟩ := hb_bind h
  obtain ⟨h1, nf1, hb1⟩ := hb_on_at h1
  refine hs_callVi (μ' := mX9_refused) (mc := 0) (ms := 0) (rc := 0) (rs := 0) (As := [.int s1]) (rest := []) (ci := 9) dX9_get_15 lmX9_74 okX9_refused rfl (by decide) rfl (Nat.le_of_ble_eq_true rfl) rfl hb1 (c_X9_refused h1) ?_
  refine hs_if_eq (tgt := 25) dX9_get_18 (by decide) (fun hc2 => ?_) (fun hc2 => ?_)
  · rw [if_pos hc2] at h
    refine hs_aload_n dX9_get_25 0 rfl ?_
    obtain ⟨r3, h3, h⟩ := hb_bind h
    refine hs_getR dX9_get_26 lkX9_7 rfl h3 ?_
    refine hs_iload_n dX9_get_29 1 rfl ?_
    obtain ⟨r4, h4, h⟩ := hb_bind h
    refine hs_callSi (μ' := mX9_at) (mc := 0) (ms := 0) (rc := 0) (rs := 0) (As := [.int x1]) (rest := [.ref r3]) dX9_get_30 lmX9_103 okX9_at rfl (by decide) rfl (Nat.le_of_ble_eq_true rfl) (c_X9_at h4) ?_
    refine hs_iconst (v := (5 : Int32)) dX9_get_33 (by decide) ?_
    refine hs_iadd dX9_get_34 ?_
    refine hs_iload_n dX9_get_35 2 rfl ?_
    refine hs_iadd dX9_get_36 ?_
    obtain ⟨r5, h5, h⟩ := hb_bind h
    refine hs_iald dX9_get_37 h5 ?_
    obtain rfl := Option.some.inj h
    exact hs_ireturn dX9_get_38 rfl (by rfl) (fun _ => rfl)
  · rw [if_neg hc2] at h
    refine hs_iconst (v := (0 : Int32)) dX9_get_21 (by decide) ?_
    refine hs_goto (tgt := 38) dX9_get_22 (by decide) ?_
    obtain rfl := Option.some.inj h
    exact hs_ireturn dX9_get_38 rfl (by rfl) (fun _ => rfl)
set_option maxHeartbeats 4000000 in
set_option maxRecDepth 20000 in
theorem c_X9_get {G : hb_G} {l : Launch} {z : Bool} {x0 : Nat} {x1 : Int32} {x2 : Int32} {σ : hb_M} {r : (Int32 × hb_M)} (h : f_X9_get x0 x1 x2 σ = some r) : hb_Call G l z 3 0 0 mX9_get [.ref x0, .int x1, .int x2] σ (.inl (some (.int r.1)), r.2) := by
  refine hb_met (by decide) (Nat.le_of_ble_eq_true rfl) ?_
  unfold f_X9_get at h
  refine hs_aload_n dX9_get_0 0 rfl ?_
  refine hs_aload_n dX9_get_1 0 rfl ?_
  refine hs_iload_n dX9_get_2 1 rfl ?_
  refine hs_iload_n dX9_get_3 2 rfl ?_
  obtain ⟨r1, h1, h⟩ := hb_bind h
  obtain ⟨h1, nf1, hb1⟩ := hb_on_at h1
  refine hs_callVi (μ' := mX9_isSlot) (mc := 0) (ms := 0) (rc := 0) (rs := 0) (As := [.int x1, .int x2]) (rest := [.ref x0]) (ci := 9) dX9_get_4 lmX9_125 okX9_isSlot rfl (by decide) rfl (Nat.le_of_ble_eq_true rfl) rfl hb1 (c_X9_isSlot h1) ?_
  refine hs_if_eq (tgt := 14) dX9_get_7 (by decide) (fun hc2 => ?_) (fun hc2 => ?_)
  · rw [if_pos hc2] at h
    refine hs_iconst (v := (1 : Int32)) dX9_get_14 (by decide) ?_
    refine hs_sub (lv' := [(0, .ref x0), (1, .int x1), (2, .int x2)]) [0, 1, 2] rfl ?_
    exact c_X9_get_b15 h
  · rw [if_neg hc2] at h
    refine hs_iconst (v := (0 : Int32)) dX9_get_10 (by decide) ?_
    refine hs_goto (tgt := 15) dX9_get_11 (by decide) ?_
    refine hs_sub (lv' := [(0, .ref x0), (1, .int x1), (2, .int x2)]) [0, 1, 2] rfl ?_
    exact c_X9_get_b15 h
def mX9_resizeArray : hb_Y := (yX9_resizeArray, cX9_resizeArray, 5, (some .int), [], false)
set_option maxHeartbeats 4000000 in
set_option maxRecDepth 20000 in
theorem c_X9_resizeArray_b87 {G : hb_G} {l : Launch} {z : Bool} : ∀ (n : Nat) (x0 : Nat) (x1 : Int32) (x3 : Int32) (x4 : Int32) (σ : hb_M) (r : (Int32 × hb_M)), f_X9_resizeArray_b87 n x0 x1 x3 x4 σ = some r → hb_T G l z mX9_resizeArray 2 0 0 87 [(0, .ref x0), (1, .int x1), (3, .int x3), (4, .int x4)] [] σ (.inl (some (.int r.1)), r.2) := by
  intro n
  induction n with
  | zero =>
    intro x0 x1 x3 x4 σ r h
    cases h
  | succ n ih =>
    intro x0 x1 x3 x4 σ r h
    rw [f_X9_resizeArray_b87] at h
    refine hs_iload dX9_resizeArray_87 3 rfl ?_
    refine hs_bipush (v := (8 : Int32)) dX9_resizeArray_89 (by decide) ?_
    refine hs_icmp_ge (tgt := 115) dX9_resizeArray_91 (by decide) (fun hc1 => ?_) (fun hc1 => ?_)
    · rw [if_pos hc1] at h
      refine hs_iload_n dX9_resizeArray_115 2 rfl ?_
      obtain rfl := Option.some.inj h
      exact hs_ireturn dX9_resizeArray_116 rfl (by rfl) (fun _ => rfl)
    · rw [if_neg hc1] at h
      refine hs_aload_n dX9_resizeArray_94 0 rfl ?_
      obtain ⟨r2, h2, h⟩ := hb_bind h
      refine hs_getR dX9_resizeArray_95 lkX9_7 rfl h2 ?_
      refine hs_iload_n dX9_resizeArray_98 1 rfl ?_
      obtain ⟨r3, h3, h⟩ := hb_bind h
      refine hs_callSi (μ' := mX9_at) (mc := 0) (ms := 0) (rc := 0) (rs := 0) (As := [.int x1]) (rest := [.ref r2]) dX9_resizeArray_99 lmX9_103 okX9_at rfl (by decide) rfl (Nat.le_of_ble_eq_true rfl) (c_X9_at h3) ?_
      refine hs_iconst (v := (5 : Int32)) dX9_resizeArray_102 (by decide) ?_
      refine hs_iadd dX9_resizeArray_103 ?_
      refine hs_iload dX9_resizeArray_104 3 rfl ?_
      refine hs_iadd dX9_resizeArray_106 ?_
      refine hs_iconst (v := (-1 : Int32)) dX9_resizeArray_107 (by decide) ?_
      obtain ⟨r4, h4, h⟩ := hb_bind h
      refine hs_iast dX9_resizeArray_108 h4 ?_
      refine hs_iinc2 (k := (1 : Int32)) (lv' := [(4, .int (x4 + (1 : Int32))), (0, .ref x0), (1, .int x1), (3, .int x3)]) dX9_resizeArray_109 (by decide) 3 rfl (by decide) rfl ?_
      refine hs_goto (tgt := 87) dX9_resizeArray_112 (by decide) ?_
      refine hs_sub (lv' := [(0, .ref x0), (1, .int x1), (3, .int x3), (4, .int (x4 + (1 : Int32)))]) [1, 2, 3, 0] rfl ?_
      exact ih _ _ _ _ _ _ h
set_option maxHeartbeats 4000000 in
set_option maxRecDepth 20000 in
theorem c_X9_resizeArray_b48 {G : hb_G} {l : Launch} {z : Bool}  {x0 : Nat} {x1 : Int32} {x2 : Int32} {s0 : Nat} {s1 : Int32} {σ : hb_M} {r : (Int32 × hb_M)} (h : f_X9_resizeArray_b48 x0 x1 x2 s0 s1 σ = some r) : hb_T G l z mX9_resizeArray 2 0 0 48 [(0, .ref x0), (1, .int x1), (2, .int x2)] [.int s1, .ref s0] σ (.inl (some (.int r.1)), r.2) := by
  unfold f_X9_resizeArray_b48 at h
  obtain ⟨r1, h1, h⟩ := hb_bind h
  obtain ⟨h1, nf1, hb1⟩ := hb_on_at h1
  refine hs_callVi (μ' := mX9_refused) (mc := 0) (ms := 0) (rc := 0) (rs := 0) (As := [.int s1]) (rest := []) (ci := 9) dX9_resizeArray_48 lmX9_74 okX9_refused rfl (by decide) rfl (Nat.le_of_ble_eq_true rfl) rfl hb1 (c_X9_refused h1) ?_
  refine hs_if_eq (tgt := 56) dX9_resizeArray_51 (by decide) (fun hc2 => ?_) (fun hc2 => ?_)
  · rw [if_pos hc2] at h
    refine hs_aload_n dX9_resizeArray_56 0 rfl ?_
    obtain ⟨r3, h3, h⟩ := hb_bind h
    obtain ⟨h3, nf3, hb3⟩ := hb_on_at h3
    refine hs_callVv (μ' := mX9_saves) (mc := 0) (ms := 0) (rc := 0) (rs := 0) (As := []) (rest := []) (ci := 9) dX9_resizeArray_57 lmX9_89 okX9_saves rfl (by decide) rfl (Nat.le_of_ble_eq_true rfl) rfl hb3 (c_X9_saves h3) ?_
    refine hs_aload_n dX9_resizeArray_60 0 rfl ?_
    obtain ⟨r4, h4, h⟩ := hb_bind h
    refine hs_getR dX9_resizeArray_61 lkX9_7 rfl h4 ?_
    refine hs_iload_n dX9_resizeArray_64 1 rfl ?_
    obtain ⟨r5, h5, h⟩ := hb_bind h
    refine hs_callSi (μ' := mX9_at) (mc := 0) (ms := 0) (rc := 0) (rs := 0) (As := [.int x1]) (rest := [.ref r4]) dX9_resizeArray_65 lmX9_103 okX9_at rfl (by decide) rfl (Nat.le_of_ble_eq_true rfl) (c_X9_at h5) ?_
    refine hs_iconst (v := (2 : Int32)) dX9_resizeArray_68 (by decide) ?_
    refine hs_iadd dX9_resizeArray_69 ?_
    obtain ⟨r6, h6, h⟩ := hb_bind h
    refine hs_iald dX9_resizeArray_70 h6 ?_
    refine hs_istore_n (lv' := [(3, .int r6), (0, .ref x0), (1, .int x1), (2, .int x2)]) dX9_resizeArray_71 (by decide) rfl ?_
    refine hs_aload_n dX9_resizeArray_72 1 rfl ?_
    obtain ⟨r7, h7, h⟩ := hb_bind h
    refine hs_getR dX9_resizeArray_73 lkX9_7 rfl h7 ?_
    refine hs_iload_n dX9_resizeArray_76 2 rfl ?_
    obtain ⟨r8, h8, h⟩ := hb_bind h
    refine hs_callSi (μ' := mX9_at) (mc := 0) (ms := 0) (rc := 0) (rs := 0) (As := [.int x1]) (rest := [.ref r7]) dX9_resizeArray_77 lmX9_103 okX9_at rfl (by decide) rfl (Nat.le_of_ble_eq_true rfl) (c_X9_at h8) ?_
    refine hs_iconst (v := (2 : Int32)) dX9_resizeArray_80 (by decide) ?_
    refine hs_iadd dX9_resizeArray_81 ?_
    refine hs_iload_n dX9_resizeArray_82 3 rfl ?_
    obtain ⟨r9, h9, h⟩ := hb_bind h
    refine hs_iast dX9_resizeArray_83 h9 ?_
    refine hs_iload_n dX9_resizeArray_84 3 rfl ?_
    refine hs_istore (lv' := [(4, .int x2), (3, .int r6), (0, .ref x0), (1, .int x1), (2, .int x2)]) dX9_resizeArray_85 (by decide) rfl ?_
    refine hs_sub (lv' := [(0, .ref x0), (1, .int x1), (3, .int r6), (4, .int x2)]) [2, 3, 1, 0] rfl ?_
    exact c_X9_resizeArray_b87 hb_FU _ _ _ _ _ _ h
  · rw [if_neg hc2] at h
    refine hs_iconst (v := (0 : Int32)) dX9_resizeArray_54 (by decide) ?_
    obtain rfl := Option.some.inj h
    exact hs_ireturn dX9_resizeArray_55 rfl (by rfl) (fun _ => rfl)
set_option maxHeartbeats 4000000 in
set_option maxRecDepth 20000 in
theorem c_X9_resizeArray {G : hb_G} {l : Launch} {z : Bool} {x0 : Nat} {x1 : Int32} {x2 : Int32} {σ : hb_M} {r : (Int32 × hb_M)} (h : f_X9_resizeArray x0 x1 x2 σ = some r) : hb_Call G l z 2 0 0 mX9_resizeArray [.ref x0, .int x1, .int x2] σ (.inl (some (.int r.1)), r.2) := by
  refine hb_met (by decide) (Nat.le_of_ble_eq_true rfl) ?_
  unfold f_X9_resizeArray at h
  refine hs_aload_n dX9_resizeArray_0 0 rfl ?_
  refine hs_aload_n dX9_resizeArray_1 0 rfl ?_
  refine hs_iload_n dX9_resizeArray_2 1 rfl ?_
  obtain ⟨r1, h1, h⟩ := hb_bind h
  obtain ⟨h1, nf1, hb1⟩ := hb_on_at h1
  refine hs_callVi (μ' := mX9_isObject) (mc := 0) (ms := 0) (rc := 0) (rs := 0) (As := [.int x1]) (rest := [.ref x0]) (ci := 9) dX9_resizeArray_3 lmX9_106 okX9_isObject rfl (by decide) rfl (Nat.le_of_ble_eq_true rfl) rfl hb1 (c_X9_isObject h1) ?_
  refine hs_if_ne (tgt := 13) dX9_resizeArray_6 (by decide) (fun hc2 => ?_) (fun hc2 => ?_)
  · rw [if_neg hc2] at h
    refine hs_iload_n dX9_resizeArray_13 2 rfl ?_
    refine hs_iconst (v := (0 : Int32)) dX9_resizeArray_14 (by decide) ?_
    refine hs_bipush (v := (8 : Int32)) dX9_resizeArray_15 (by decide) ?_
    obtain ⟨r3, h3, h⟩ := hb_bind h
    refine hs_callSi (μ' := mX9_within) (mc := 0) (ms := 0) (rc := 0) (rs := 0) (As := [.int x2, .int (0 : Int32), .int (8 : Int32)]) (rest := [.ref x0]) dX9_resizeArray_17 lmX9_78 okX9_within rfl (by decide) rfl (Nat.le_of_ble_eq_true rfl) (c_X9_within h3) ?_
    refine hs_if_ne (tgt := 27) dX9_resizeArray_20 (by decide) (fun hc4 => ?_) (fun hc4 => ?_)
    · rw [if_neg hc4] at h
      refine hs_aload_n dX9_resizeArray_27 0 rfl ?_
      obtain ⟨r5, h5, h⟩ := hb_bind h
      refine hs_getR dX9_resizeArray_28 lkX9_7 rfl h5 ?_
      refine hs_iload_n dX9_resizeArray_31 1 rfl ?_
      obtain ⟨r6, h6, h⟩ := hb_bind h
      refine hs_callSi (μ' := mX9_at) (mc := 0) (ms := 0) (rc := 0) (rs := 0) (As := [.int x1]) (rest := [.ref r5, .ref x0]) dX9_resizeArray_32 lmX9_103 okX9_at rfl (by decide) rfl (Nat.le_of_ble_eq_true rfl) (c_X9_at h6) ?_
      refine hs_iconst (v := (1 : Int32)) dX9_resizeArray_35 (by decide) ?_
      refine hs_iadd dX9_resizeArray_36 ?_
      obtain ⟨r7, h7, h⟩ := hb_bind h
      refine hs_iald dX9_resizeArray_37 h7 ?_
      refine hs_bipush (v := (10 : Int32)) dX9_resizeArray_38 (by decide) ?_
      refine hs_icmp_eq (tgt := 47) dX9_resizeArray_40 (by decide) (fun hc8 => ?_) (fun hc8 => ?_)
      · rw [if_pos hc8] at h
        refine hs_iconst (v := (0 : Int32)) dX9_resizeArray_47 (by decide) ?_
        refine hs_sub (lv' := [(0, .ref x0), (1, .int x1), (2, .int x2)]) [0, 1, 2] rfl ?_
        exact c_X9_resizeArray_b48 h
      · rw [if_neg hc8] at h
        refine hs_iconst (v := (3 : Int32)) dX9_resizeArray_43 (by decide) ?_
        refine hs_goto (tgt := 48) dX9_resizeArray_44 (by decide) ?_
        refine hs_sub (lv' := [(0, .ref x0), (1, .int x1), (2, .int x2)]) [0, 1, 2] rfl ?_
        exact c_X9_resizeArray_b48 h
    · rw [if_pos hc4] at h
      refine hs_iconst (v := (2 : Int32)) dX9_resizeArray_23 (by decide) ?_
      refine hs_goto (tgt := 48) dX9_resizeArray_24 (by decide) ?_
      refine hs_sub (lv' := [(0, .ref x0), (1, .int x1), (2, .int x2)]) [0, 1, 2] rfl ?_
      exact c_X9_resizeArray_b48 h
  · rw [if_pos hc2] at h
    refine hs_iconst (v := (1 : Int32)) dX9_resizeArray_9 (by decide) ?_
    refine hs_goto (tgt := 48) dX9_resizeArray_10 (by decide) ?_
    refine hs_sub (lv' := [(0, .ref x0), (1, .int x1), (2, .int x2)]) [0, 1, 2] rfl ?_
    exact c_X9_resizeArray_b48 h
def mX9_referent : hb_Y := (yX9_referent, cX9_referent, 2, (some .int), [], false)
set_option maxHeartbeats 4000000 in
set_option maxRecDepth 20000 in
theorem c_X9_referent_b34 {G : hb_G} {l : Launch} {z : Bool}  {x0 : Nat} {x1 : Int32} {s0 : Nat} {s1 : Int32} {σ : hb_M} {r : (Int32 × hb_M)} (h : f_X9_referent_b34 x0 x1 s0 s1 σ = some r) : hb_T G l z mX9_referent 2 0 0 34 [(0, .ref x0), (1, .int x1)] [.int s1, .ref s0] σ (.inl (some (.int r.1)), r.2) := by
  unfold f_X9_referent_b34 at h
  obtain ⟨r1, h1, h⟩ := hb_bind h
  obtain ⟨h1, nf1, hb1⟩ := hb_on_at h1
  refine hs_callVi (μ' := mX9_refused) (mc := 0) (ms := 0) (rc := 0) (rs := 0) (As := [.int s1]) (rest := []) (ci := 9) dX9_referent_34 lmX9_74 okX9_refused rfl (by decide) rfl (Nat.le_of_ble_eq_true rfl) rfl hb1 (c_X9_refused h1) ?_
  refine hs_if_eq (tgt := 44) dX9_referent_37 (by decide) (fun hc2 => ?_) (fun hc2 => ?_)
  · rw [if_pos hc2] at h
    refine hs_aload_n dX9_referent_44 0 rfl ?_
    obtain ⟨r3, h3, h⟩ := hb_bind h
    refine hs_getR dX9_referent_45 lkX9_7 rfl h3 ?_
    refine hs_iload_n dX9_referent_48 1 rfl ?_
    obtain ⟨r4, h4, h⟩ := hb_bind h
    refine hs_callSi (μ' := mX9_at) (mc := 0) (ms := 0) (rc := 0) (rs := 0) (As := [.int x1]) (rest := [.ref r3]) dX9_referent_49 lmX9_103 okX9_at rfl (by decide) rfl (Nat.le_of_ble_eq_true rfl) (c_X9_at h4) ?_
    refine hs_iconst (v := (5 : Int32)) dX9_referent_52 (by decide) ?_
    refine hs_iadd dX9_referent_53 ?_
    obtain ⟨r5, h5, h⟩ := hb_bind h
    refine hs_iald dX9_referent_54 h5 ?_
    obtain rfl := Option.some.inj h
    exact hs_ireturn dX9_referent_55 rfl (by rfl) (fun _ => rfl)
  · rw [if_neg hc2] at h
    refine hs_iconst (v := (0 : Int32)) dX9_referent_40 (by decide) ?_
    refine hs_goto (tgt := 55) dX9_referent_41 (by decide) ?_
    obtain rfl := Option.some.inj h
    exact hs_ireturn dX9_referent_55 rfl (by rfl) (fun _ => rfl)
set_option maxHeartbeats 4000000 in
set_option maxRecDepth 20000 in
theorem c_X9_referent {G : hb_G} {l : Launch} {z : Bool} {x0 : Nat} {x1 : Int32} {σ : hb_M} {r : (Int32 × hb_M)} (h : f_X9_referent x0 x1 σ = some r) : hb_Call G l z 2 0 0 mX9_referent [.ref x0, .int x1] σ (.inl (some (.int r.1)), r.2) := by
  refine hb_met (by decide) (Nat.le_of_ble_eq_true rfl) ?_
  unfold f_X9_referent at h
  refine hs_aload_n dX9_referent_0 0 rfl ?_
  refine hs_aload_n dX9_referent_1 0 rfl ?_
  refine hs_iload_n dX9_referent_2 1 rfl ?_
  obtain ⟨r1, h1, h⟩ := hb_bind h
  obtain ⟨h1, nf1, hb1⟩ := hb_on_at h1
  refine hs_callVi (μ' := mX9_isObject) (mc := 0) (ms := 0) (rc := 0) (rs := 0) (As := [.int x1]) (rest := [.ref x0]) (ci := 9) dX9_referent_3 lmX9_106 okX9_isObject rfl (by decide) rfl (Nat.le_of_ble_eq_true rfl) rfl hb1 (c_X9_isObject h1) ?_
  refine hs_if_ne (tgt := 13) dX9_referent_6 (by decide) (fun hc2 => ?_) (fun hc2 => ?_)
  · rw [if_neg hc2] at h
    refine hs_aload_n dX9_referent_13 0 rfl ?_
    obtain ⟨r3, h3, h⟩ := hb_bind h
    refine hs_getR dX9_referent_14 lkX9_7 rfl h3 ?_
    refine hs_iload_n dX9_referent_17 1 rfl ?_
    obtain ⟨r4, h4, h⟩ := hb_bind h
    refine hs_callSi (μ' := mX9_at) (mc := 0) (ms := 0) (rc := 0) (rs := 0) (As := [.int x1]) (rest := [.ref r3, .ref x0]) dX9_referent_18 lmX9_103 okX9_at rfl (by decide) rfl (Nat.le_of_ble_eq_true rfl) (c_X9_at h4) ?_
    refine hs_iconst (v := (1 : Int32)) dX9_referent_21 (by decide) ?_
    refine hs_iadd dX9_referent_22 ?_
    obtain ⟨r5, h5, h⟩ := hb_bind h
    refine hs_iald dX9_referent_23 h5 ?_
    refine hs_bipush (v := (11 : Int32)) dX9_referent_24 (by decide) ?_
    refine hs_icmp_eq (tgt := 33) dX9_referent_26 (by decide) (fun hc6 => ?_) (fun hc6 => ?_)
    · rw [if_pos hc6] at h
      refine hs_iconst (v := (0 : Int32)) dX9_referent_33 (by decide) ?_
      refine hs_sub (lv' := [(0, .ref x0), (1, .int x1)]) [0, 1] rfl ?_
      exact c_X9_referent_b34 h
    · rw [if_neg hc6] at h
      refine hs_iconst (v := (2 : Int32)) dX9_referent_29 (by decide) ?_
      refine hs_goto (tgt := 34) dX9_referent_30 (by decide) ?_
      refine hs_sub (lv' := [(0, .ref x0), (1, .int x1)]) [0, 1] rfl ?_
      exact c_X9_referent_b34 h
  · rw [if_pos hc2] at h
    refine hs_iconst (v := (1 : Int32)) dX9_referent_9 (by decide) ?_
    refine hs_goto (tgt := 34) dX9_referent_10 (by decide) ?_
    refine hs_sub (lv' := [(0, .ref x0), (1, .int x1)]) [0, 1] rfl ?_
    exact c_X9_referent_b34 h
def mX9_rootRefusal : hb_Y := (yX9_rootRefusal, cX9_rootRefusal, 3, (some .int), [], false)
theorem okX9_rootRefusal : hb_okV mX9_rootRefusal 2 := ⟨⟨hb_w 11 (by decide +kernel) (by decide +kernel), hb_w 1537 (by decide +kernel) (by decide +kernel), ⟨by decide +kernel, by decide +kernel, by decide +kernel⟩, by decide⟩, hb_w 1536 (by decide +kernel) (by decide +kernel), hb_wp (q := (yX9_rootRefusal, 29)) 49 (by decide +kernel) (by decide +kernel)⟩
set_option maxHeartbeats 4000000 in
set_option maxRecDepth 20000 in
theorem c_X9_rootRefusal {G : hb_G} {l : Launch} {z : Bool} {x0 : Nat} {x1 : Int32} {x2 : Int32} {σ : hb_M} {r : (Int32 × hb_M)} (h : f_X9_rootRefusal x0 x1 x2 σ = some r) : hb_Call G l z 2 0 0 mX9_rootRefusal [.ref x0, .int x1, .int x2] σ (.inl (some (.int r.1)), r.2) := by
  refine hb_met (by decide) (Nat.le_of_ble_eq_true rfl) ?_
  unfold f_X9_rootRefusal at h
  refine hs_aload_n dX9_rootRefusal_0 0 rfl ?_
  refine hs_iload_n dX9_rootRefusal_1 1 rfl ?_
  obtain ⟨r1, h1, h⟩ := hb_bind h
  obtain ⟨h1, nf1, hb1⟩ := hb_on_at h1
  refine hs_callVi (μ' := mX9_isObject) (mc := 0) (ms := 0) (rc := 0) (rs := 0) (As := [.int x1]) (rest := []) (ci := 9) dX9_rootRefusal_2 lmX9_106 okX9_isObject rfl (by decide) rfl (Nat.le_of_ble_eq_true rfl) rfl hb1 (c_X9_isObject h1) ?_
  refine hs_if_ne (tgt := 12) dX9_rootRefusal_5 (by decide) (fun hc2 => ?_) (fun hc2 => ?_)
  · rw [if_neg hc2] at h
    refine hs_iload_n dX9_rootRefusal_12 2 rfl ?_
    refine hs_iconst (v := (0 : Int32)) dX9_rootRefusal_13 (by decide) ?_
    refine hs_iconst (v := (2 : Int32)) dX9_rootRefusal_14 (by decide) ?_
    obtain ⟨r3, h3, h⟩ := hb_bind h
    refine hs_callSi (μ' := mX9_within) (mc := 0) (ms := 0) (rc := 0) (rs := 0) (As := [.int x2, .int (0 : Int32), .int (2 : Int32)]) (rest := []) dX9_rootRefusal_15 lmX9_78 okX9_within rfl (by decide) rfl (Nat.le_of_ble_eq_true rfl) (c_X9_within h3) ?_
    refine hs_if_ne (tgt := 25) dX9_rootRefusal_18 (by decide) (fun hc4 => ?_) (fun hc4 => ?_)
    · rw [if_neg hc4] at h
      refine hs_iconst (v := (0 : Int32)) dX9_rootRefusal_25 (by decide) ?_
      obtain rfl := Option.some.inj h
      exact hs_ireturn dX9_rootRefusal_26 rfl (by rfl) (fun _ => rfl)
    · rw [if_pos hc4] at h
      refine hs_iconst (v := (2 : Int32)) dX9_rootRefusal_21 (by decide) ?_
      refine hs_goto (tgt := 26) dX9_rootRefusal_22 (by decide) ?_
      obtain rfl := Option.some.inj h
      exact hs_ireturn dX9_rootRefusal_26 rfl (by rfl) (fun _ => rfl)
  · rw [if_pos hc2] at h
    refine hs_iconst (v := (1 : Int32)) dX9_rootRefusal_8 (by decide) ?_
    refine hs_goto (tgt := 26) dX9_rootRefusal_9 (by decide) ?_
    obtain rfl := Option.some.inj h
    exact hs_ireturn dX9_rootRefusal_26 rfl (by rfl) (fun _ => rfl)
def mX9_addRoot : hb_Y := (yX9_addRoot, cX9_addRoot, 3, (some .int), [], false)
set_option maxHeartbeats 4000000 in
set_option maxRecDepth 20000 in
theorem c_X9_addRoot {G : hb_G} {l : Launch} {z : Bool} {x0 : Nat} {x1 : Int32} {x2 : Int32} {σ : hb_M} {r : (Int32 × hb_M)} (h : f_X9_addRoot x0 x1 x2 σ = some r) : hb_Call G l z 3 0 0 mX9_addRoot [.ref x0, .int x1, .int x2] σ (.inl (some (.int r.1)), r.2) := by
  refine hb_met (by decide) (Nat.le_of_ble_eq_true rfl) ?_
  unfold f_X9_addRoot at h
  refine hs_aload_n dX9_addRoot_0 0 rfl ?_
  refine hs_aload_n dX9_addRoot_1 0 rfl ?_
  refine hs_iload_n dX9_addRoot_2 1 rfl ?_
  refine hs_iload_n dX9_addRoot_3 2 rfl ?_
  obtain ⟨r1, h1, h⟩ := hb_bind h
  obtain ⟨h1, nf1, hb1⟩ := hb_on_at h1
  refine hs_callVi (μ' := mX9_rootRefusal) (mc := 0) (ms := 0) (rc := 0) (rs := 0) (As := [.int x1, .int x2]) (rest := [.ref x0]) (ci := 9) dX9_addRoot_4 lmX9_132 okX9_rootRefusal rfl (by decide) rfl (Nat.le_of_ble_eq_true rfl) rfl hb1 (c_X9_rootRefusal h1) ?_
  obtain ⟨r2, h2, h⟩ := hb_bind h
  obtain ⟨h2, nf2, hb2⟩ := hb_on_at h2
  refine hs_callVi (μ' := mX9_refused) (mc := 0) (ms := 0) (rc := 0) (rs := 0) (As := [.int r1.1]) (rest := []) (ci := 9) dX9_addRoot_7 lmX9_74 okX9_refused rfl (by decide) rfl (Nat.le_of_ble_eq_true rfl) rfl hb2 (c_X9_refused h2) ?_
  refine hs_if_eq (tgt := 15) dX9_addRoot_10 (by decide) (fun hc3 => ?_) (fun hc3 => ?_)
  · rw [if_pos hc3] at h
    refine hs_aload_n dX9_addRoot_15 0 rfl ?_
    obtain ⟨r4, h4, h⟩ := hb_bind h
    obtain ⟨h4, nf4, hb4⟩ := hb_on_at h4
    refine hs_callVv (μ' := mX9_saves) (mc := 0) (ms := 0) (rc := 0) (rs := 0) (As := []) (rest := []) (ci := 9) dX9_addRoot_16 lmX9_89 okX9_saves rfl (by decide) rfl (Nat.le_of_ble_eq_true rfl) rfl hb4 (c_X9_saves h4) ?_
    refine hs_aload_n dX9_addRoot_19 0 rfl ?_
    obtain ⟨r5, h5, h⟩ := hb_bind h
    refine hs_getR dX9_addRoot_20 lkX9_7 rfl h5 ?_
    refine hs_iload_n dX9_addRoot_23 1 rfl ?_
    obtain ⟨r6, h6, h⟩ := hb_bind h
    refine hs_callSi (μ' := mX9_at) (mc := 0) (ms := 0) (rc := 0) (rs := 0) (As := [.int x1]) (rest := [.ref r5]) dX9_addRoot_24 lmX9_103 okX9_at rfl (by decide) rfl (Nat.le_of_ble_eq_true rfl) (c_X9_at h6) ?_
    refine hs_iconst (v := (4 : Int32)) dX9_addRoot_27 (by decide) ?_
    refine hs_iadd dX9_addRoot_28 ?_
    refine hs_dup2 dX9_addRoot_29 rfl rfl ?_
    obtain ⟨r7, h7, h⟩ := hb_bind h
    refine hs_iald dX9_addRoot_30 h7 ?_
    refine hs_iconst (v := (1 : Int32)) dX9_addRoot_31 (by decide) ?_
    refine hs_iload_n dX9_addRoot_32 2 rfl ?_
    refine hs_ishl dX9_addRoot_33 ?_
    refine hs_ior dX9_addRoot_34 ?_
    obtain ⟨r8, h8, h⟩ := hb_bind h
    refine hs_iast dX9_addRoot_35 h8 ?_
    refine hs_aload_n dX9_addRoot_36 0 rfl ?_
    obtain ⟨r9, h9, h⟩ := hb_bind h
    refine hs_getR dX9_addRoot_37 lkX9_7 rfl h9 ?_
    refine hs_iload_n dX9_addRoot_40 1 rfl ?_
    obtain ⟨r10, h10, h⟩ := hb_bind h
    refine hs_callSi (μ' := mX9_at) (mc := 0) (ms := 0) (rc := 0) (rs := 0) (As := [.int x1]) (rest := [.ref r9]) dX9_addRoot_41 lmX9_103 okX9_at rfl (by decide) rfl (Nat.le_of_ble_eq_true rfl) (c_X9_at h10) ?_
    refine hs_iconst (v := (4 : Int32)) dX9_addRoot_44 (by decide) ?_
    refine hs_iadd dX9_addRoot_45 ?_
    obtain ⟨r11, h11, h⟩ := hb_bind h
    refine hs_iald dX9_addRoot_46 h11 ?_
    obtain rfl := Option.some.inj h
    exact hs_ireturn dX9_addRoot_47 rfl (by rfl) (fun _ => rfl)
  · rw [if_neg hc3] at h
    refine hs_iconst (v := (0 : Int32)) dX9_addRoot_13 (by decide) ?_
    obtain rfl := Option.some.inj h
    exact hs_ireturn dX9_addRoot_14 rfl (by rfl) (fun _ => rfl)
def mX9_unrootRefusal : hb_Y := (yX9_unrootRefusal, cX9_unrootRefusal, 4, (some .int), [], false)
theorem okX9_unrootRefusal : hb_okV mX9_unrootRefusal 2 := ⟨⟨hb_w 11 (by decide +kernel) (by decide +kernel), hb_w 1545 (by decide +kernel) (by decide +kernel), ⟨by decide +kernel, by decide +kernel, by decide +kernel⟩, by decide⟩, hb_w 1544 (by decide +kernel) (by decide +kernel), hb_wp (q := (yX9_unrootRefusal, 29)) 50 (by decide +kernel) (by decide +kernel)⟩
set_option maxHeartbeats 4000000 in
set_option maxRecDepth 20000 in
theorem c_X9_unrootRefusal {G : hb_G} {l : Launch} {z : Bool} {x0 : Nat} {x1 : Int32} {x2 : Int32} {σ : hb_M} {r : (Int32 × hb_M)} (h : f_X9_unrootRefusal x0 x1 x2 σ = some r) : hb_Call G l z 3 0 0 mX9_unrootRefusal [.ref x0, .int x1, .int x2] σ (.inl (some (.int r.1)), r.2) := by
  refine hb_met (by decide) (Nat.le_of_ble_eq_true rfl) ?_
  unfold f_X9_unrootRefusal at h
  refine hs_aload_n dX9_unrootRefusal_0 0 rfl ?_
  refine hs_iload_n dX9_unrootRefusal_1 1 rfl ?_
  refine hs_iload_n dX9_unrootRefusal_2 2 rfl ?_
  obtain ⟨r1, h1, h⟩ := hb_bind h
  obtain ⟨h1, nf1, hb1⟩ := hb_on_at h1
  refine hs_callVi (μ' := mX9_rootRefusal) (mc := 0) (ms := 0) (rc := 0) (rs := 0) (As := [.int x1, .int x2]) (rest := []) (ci := 9) dX9_unrootRefusal_3 lmX9_132 okX9_rootRefusal rfl (by decide) rfl (Nat.le_of_ble_eq_true rfl) rfl hb1 (c_X9_rootRefusal h1) ?_
  refine hs_istore_n (lv' := [(3, .int r1.1), (0, .ref x0), (1, .int x1), (2, .int x2)]) dX9_unrootRefusal_6 (by decide) rfl ?_
  refine hs_iload_n dX9_unrootRefusal_7 0 rfl ?_
  refine hs_if_eq (tgt := 15) dX9_unrootRefusal_8 (by decide) (fun hc2 => ?_) (fun hc2 => ?_)
  · rw [if_pos hc2] at h
    refine hs_aload_n dX9_unrootRefusal_15 1 rfl ?_
    obtain ⟨r3, h3, h⟩ := hb_bind h
    refine hs_getR dX9_unrootRefusal_16 lkX9_7 rfl h3 ?_
    refine hs_iload_n dX9_unrootRefusal_19 2 rfl ?_
    obtain ⟨r4, h4, h⟩ := hb_bind h
    refine hs_callSi (μ' := mX9_at) (mc := 0) (ms := 0) (rc := 0) (rs := 0) (As := [.int x1]) (rest := [.ref r3]) dX9_unrootRefusal_20 lmX9_103 okX9_at rfl (by decide) rfl (Nat.le_of_ble_eq_true rfl) (c_X9_at h4) ?_
    refine hs_iconst (v := (4 : Int32)) dX9_unrootRefusal_23 (by decide) ?_
    refine hs_iadd dX9_unrootRefusal_24 ?_
    obtain ⟨r5, h5, h⟩ := hb_bind h
    refine hs_iald dX9_unrootRefusal_25 h5 ?_
    refine hs_iload_n dX9_unrootRefusal_26 3 rfl ?_
    refine hs_ishr dX9_unrootRefusal_27 ?_
    refine hs_iconst (v := (1 : Int32)) dX9_unrootRefusal_28 (by decide) ?_
    refine hs_iand dX9_unrootRefusal_29 ?_
    refine hs_if_ne (tgt := 37) dX9_unrootRefusal_30 (by decide) (fun hc6 => ?_) (fun hc6 => ?_)
    · rw [if_neg hc6] at h
      refine hs_iconst (v := (0 : Int32)) dX9_unrootRefusal_37 (by decide) ?_
      obtain rfl := Option.some.inj h
      exact hs_ireturn dX9_unrootRefusal_38 rfl (by rfl) (fun _ => rfl)
    · rw [if_pos hc6] at h
      refine hs_iconst (v := (3 : Int32)) dX9_unrootRefusal_33 (by decide) ?_
      refine hs_goto (tgt := 38) dX9_unrootRefusal_34 (by decide) ?_
      obtain rfl := Option.some.inj h
      exact hs_ireturn dX9_unrootRefusal_38 rfl (by rfl) (fun _ => rfl)
  · rw [if_neg hc2] at h
    refine hs_iload_n dX9_unrootRefusal_11 0 rfl ?_
    refine hs_goto (tgt := 38) dX9_unrootRefusal_12 (by decide) ?_
    obtain rfl := Option.some.inj h
    exact hs_ireturn dX9_unrootRefusal_38 rfl (by rfl) (fun _ => rfl)
def mX9_removeRoot : hb_Y := (yX9_removeRoot, cX9_removeRoot, 3, (some .int), [], false)
set_option maxHeartbeats 4000000 in
set_option maxRecDepth 20000 in
theorem c_X9_removeRoot {G : hb_G} {l : Launch} {z : Bool} {x0 : Nat} {x1 : Int32} {x2 : Int32} {σ : hb_M} {r : (Int32 × hb_M)} (h : f_X9_removeRoot x0 x1 x2 σ = some r) : hb_Call G l z 4 0 0 mX9_removeRoot [.ref x0, .int x1, .int x2] σ (.inl (some (.int r.1)), r.2) := by
  refine hb_met (by decide) (Nat.le_of_ble_eq_true rfl) ?_
  unfold f_X9_removeRoot at h
  refine hs_aload_n dX9_removeRoot_0 0 rfl ?_
  refine hs_aload_n dX9_removeRoot_1 0 rfl ?_
  refine hs_iload_n dX9_removeRoot_2 1 rfl ?_
  refine hs_iload_n dX9_removeRoot_3 2 rfl ?_
  obtain ⟨r1, h1, h⟩ := hb_bind h
  obtain ⟨h1, nf1, hb1⟩ := hb_on_at h1
  refine hs_callVi (μ' := mX9_unrootRefusal) (mc := 0) (ms := 0) (rc := 0) (rs := 0) (As := [.int x1, .int x2]) (rest := [.ref x0]) (ci := 9) dX9_removeRoot_4 lmX9_135 okX9_unrootRefusal rfl (by decide) rfl (Nat.le_of_ble_eq_true rfl) rfl hb1 (c_X9_unrootRefusal h1) ?_
  obtain ⟨r2, h2, h⟩ := hb_bind h
  obtain ⟨h2, nf2, hb2⟩ := hb_on_at h2
  refine hs_callVi (μ' := mX9_refused) (mc := 0) (ms := 0) (rc := 0) (rs := 0) (As := [.int r1.1]) (rest := []) (ci := 9) dX9_removeRoot_7 lmX9_74 okX9_refused rfl (by decide) rfl (Nat.le_of_ble_eq_true rfl) rfl hb2 (c_X9_refused h2) ?_
  refine hs_if_eq (tgt := 15) dX9_removeRoot_10 (by decide) (fun hc3 => ?_) (fun hc3 => ?_)
  · rw [if_pos hc3] at h
    refine hs_aload_n dX9_removeRoot_15 0 rfl ?_
    obtain ⟨r4, h4, h⟩ := hb_bind h
    obtain ⟨h4, nf4, hb4⟩ := hb_on_at h4
    refine hs_callVv (μ' := mX9_saves) (mc := 0) (ms := 0) (rc := 0) (rs := 0) (As := []) (rest := []) (ci := 9) dX9_removeRoot_16 lmX9_89 okX9_saves rfl (by decide) rfl (Nat.le_of_ble_eq_true rfl) rfl hb4 (c_X9_saves h4) ?_
    refine hs_aload_n dX9_removeRoot_19 0 rfl ?_
    obtain ⟨r5, h5, h⟩ := hb_bind h
    refine hs_getR dX9_removeRoot_20 lkX9_7 rfl h5 ?_
    refine hs_iload_n dX9_removeRoot_23 1 rfl ?_
    obtain ⟨r6, h6, h⟩ := hb_bind h
    refine hs_callSi (μ' := mX9_at) (mc := 0) (ms := 0) (rc := 0) (rs := 0) (As := [.int x1]) (rest := [.ref r5]) dX9_removeRoot_24 lmX9_103 okX9_at rfl (by decide) rfl (Nat.le_of_ble_eq_true rfl) (c_X9_at h6) ?_
    refine hs_iconst (v := (4 : Int32)) dX9_removeRoot_27 (by decide) ?_
    refine hs_iadd dX9_removeRoot_28 ?_
    refine hs_dup2 dX9_removeRoot_29 rfl rfl ?_
    obtain ⟨r7, h7, h⟩ := hb_bind h
    refine hs_iald dX9_removeRoot_30 h7 ?_
    refine hs_iconst (v := (1 : Int32)) dX9_removeRoot_31 (by decide) ?_
    refine hs_iload_n dX9_removeRoot_32 2 rfl ?_
    refine hs_ishl dX9_removeRoot_33 ?_
    refine hs_iconst (v := (-1 : Int32)) dX9_removeRoot_34 (by decide) ?_
    refine hs_ixor dX9_removeRoot_35 ?_
    refine hs_iand dX9_removeRoot_36 ?_
    obtain ⟨r8, h8, h⟩ := hb_bind h
    refine hs_iast dX9_removeRoot_37 h8 ?_
    refine hs_aload_n dX9_removeRoot_38 0 rfl ?_
    obtain ⟨r9, h9, h⟩ := hb_bind h
    refine hs_getR dX9_removeRoot_39 lkX9_7 rfl h9 ?_
    refine hs_iload_n dX9_removeRoot_42 1 rfl ?_
    obtain ⟨r10, h10, h⟩ := hb_bind h
    refine hs_callSi (μ' := mX9_at) (mc := 0) (ms := 0) (rc := 0) (rs := 0) (As := [.int x1]) (rest := [.ref r9]) dX9_removeRoot_43 lmX9_103 okX9_at rfl (by decide) rfl (Nat.le_of_ble_eq_true rfl) (c_X9_at h10) ?_
    refine hs_iconst (v := (4 : Int32)) dX9_removeRoot_46 (by decide) ?_
    refine hs_iadd dX9_removeRoot_47 ?_
    obtain ⟨r11, h11, h⟩ := hb_bind h
    refine hs_iald dX9_removeRoot_48 h11 ?_
    obtain rfl := Option.some.inj h
    exact hs_ireturn dX9_removeRoot_49 rfl (by rfl) (fun _ => rfl)
  · rw [if_neg hc3] at h
    refine hs_iconst (v := (0 : Int32)) dX9_removeRoot_13 (by decide) ?_
    obtain rfl := Option.some.inj h
    exact hs_ireturn dX9_removeRoot_14 rfl (by rfl) (fun _ => rfl)
def mX9_refersTo : hb_Y := (yX9_refersTo, cX9_refersTo, 8, (some .long), [], false)
theorem okX9_refersTo : hb_okV mX9_refersTo 3 := ⟨⟨hb_w 11 (by decide +kernel) (by decide +kernel), hb_w 1562 (by decide +kernel) (by decide +kernel), ⟨by decide +kernel, by decide +kernel, by decide +kernel⟩, by decide⟩, hb_w 1561 (by decide +kernel) (by decide +kernel), hb_wp (q := (yX9_refersTo, 29)) 53 (by decide +kernel) (by decide +kernel)⟩
set_option maxHeartbeats 4000000 in
set_option maxRecDepth 20000 in
theorem c_X9_refersTo_b81 {G : hb_G} {l : Launch} {z : Bool}  (k22 : Nat → Int32 → Int32 → Int32 → Int64 → Int32 → hb_M → Option (Int64 × hb_M)) (hk22 : ∀ (x0 : Nat) (x1 : Int32) (x2 : Int32) (x3 : Int32) (x4 : Int64) (x6 : Int32) (σ : hb_M) (r : (Int64 × hb_M)), k22 x0 x1 x2 x3 x4 x6 σ = some r → hb_T G l z mX9_refersTo 1 0 0 22 [(0, .ref x0), (1, .int x1), (2, .int x2), (3, .int x3), (4, .long x4), (6, .int x6)] [] σ (.inl (some (.long r.1)), r.2))  {x0 : Nat} {x1 : Int32} {x2 : Int32} {x3 : Int32} {x6 : Int32} {s0 : Int64} {s1 : Int64} {σ : hb_M} {r : (Int64 × hb_M)} (h : f_X9_refersTo_b81 k22 x0 x1 x2 x3 x6 s0 s1 σ = some r) : hb_T G l z mX9_refersTo 1 0 0 81 [(0, .ref x0), (1, .int x1), (2, .int x2), (3, .int x3), (6, .int x6)] [.long s1, .long s0] σ (.inl (some (.long r.1)), r.2) := by
  unfold f_X9_refersTo_b81 at h
  refine hs_lor dX9_refersTo_81 ?_
  refine hs_lstore (lv' := [(4, .long (s0 ||| s1)), (0, .ref x0), (1, .int x1), (2, .int x2), (3, .int x3), (6, .int x6)]) dX9_refersTo_82 (by decide) rfl ?_
  refine hs_iinc2 (k := (1 : Int32)) (lv' := [(6, .int (x6 + (1 : Int32))), (4, .long (s0 ||| s1)), (0, .ref x0), (1, .int x1), (2, .int x2), (3, .int x3)]) dX9_refersTo_84 (by decide) 5 rfl (by decide) rfl ?_
  refine hs_goto (tgt := 22) dX9_refersTo_87 (by decide) ?_
  refine hs_sub (lv' := [(0, .ref x0), (1, .int x1), (2, .int x2), (3, .int x3), (4, .long (s0 ||| s1)), (6, .int (x6 + (1 : Int32)))]) [2, 3, 4, 5, 1, 0] rfl ?_
  exact hk22 _ _ _ _ _ _ _ _ h
set_option maxHeartbeats 4000000 in
set_option maxRecDepth 20000 in
theorem c_X9_refersTo_b73 {G : hb_G} {l : Launch} {z : Bool}  (k22 : Nat → Int32 → Int32 → Int32 → Int64 → Int32 → hb_M → Option (Int64 × hb_M)) (hk22 : ∀ (x0 : Nat) (x1 : Int32) (x2 : Int32) (x3 : Int32) (x4 : Int64) (x6 : Int32) (σ : hb_M) (r : (Int64 × hb_M)), k22 x0 x1 x2 x3 x4 x6 σ = some r → hb_T G l z mX9_refersTo 1 0 0 22 [(0, .ref x0), (1, .int x1), (2, .int x2), (3, .int x3), (4, .long x4), (6, .int x6)] [] σ (.inl (some (.long r.1)), r.2))  {x0 : Nat} {x1 : Int32} {x2 : Int32} {x3 : Int32} {x6 : Int32} {s0 : Int64} {σ : hb_M} {r : (Int64 × hb_M)} (h : f_X9_refersTo_b73 k22 x0 x1 x2 x3 x6 s0 σ = some r) : hb_T G l z mX9_refersTo 1 0 0 73 [(0, .ref x0), (1, .int x1), (2, .int x2), (3, .int x3), (6, .int x6)] [.long s0] σ (.inl (some (.long r.1)), r.2) := by
  unfold f_X9_refersTo_b73 at h
  refine hs_lconst (v := (0 : Int64)) dX9_refersTo_73 (by decide) ?_
  refine hs_goto (tgt := 81) dX9_refersTo_74 (by decide) ?_
  refine hs_sub (lv' := [(0, .ref x0), (1, .int x1), (2, .int x2), (3, .int x3), (6, .int x6)]) [0, 1, 2, 3, 4] rfl ?_
  exact c_X9_refersTo_b81 k22 hk22 h
set_option maxHeartbeats 4000000 in
set_option maxRecDepth 20000 in
theorem c_X9_refersTo_b77 {G : hb_G} {l : Launch} {z : Bool}  (k22 : Nat → Int32 → Int32 → Int32 → Int64 → Int32 → hb_M → Option (Int64 × hb_M)) (hk22 : ∀ (x0 : Nat) (x1 : Int32) (x2 : Int32) (x3 : Int32) (x4 : Int64) (x6 : Int32) (σ : hb_M) (r : (Int64 × hb_M)), k22 x0 x1 x2 x3 x4 x6 σ = some r → hb_T G l z mX9_refersTo 1 0 0 22 [(0, .ref x0), (1, .int x1), (2, .int x2), (3, .int x3), (4, .long x4), (6, .int x6)] [] σ (.inl (some (.long r.1)), r.2))  {x0 : Nat} {x1 : Int32} {x2 : Int32} {x3 : Int32} {x6 : Int32} {x7 : Int32} {s0 : Int64} {σ : hb_M} {r : (Int64 × hb_M)} (h : f_X9_refersTo_b77 k22 x0 x1 x2 x3 x6 x7 s0 σ = some r) : hb_T G l z mX9_refersTo 1 0 0 77 [(0, .ref x0), (1, .int x1), (2, .int x2), (3, .int x3), (6, .int x6), (7, .int x7)] [.long s0] σ (.inl (some (.long r.1)), r.2) := by
  unfold f_X9_refersTo_b77 at h
  refine hs_lconst (v := (1 : Int64)) dX9_refersTo_77 (by decide) ?_
  refine hs_iload dX9_refersTo_78 5 rfl ?_
  refine hs_lshl dX9_refersTo_80 ?_
  refine hs_sub (lv' := [(0, .ref x0), (1, .int x1), (2, .int x2), (3, .int x3), (6, .int x6)]) [0, 1, 2, 3, 4] rfl ?_
  exact c_X9_refersTo_b81 k22 hk22 h
set_option maxHeartbeats 4000000 in
set_option maxRecDepth 20000 in
theorem c_X9_refersTo_b22 {G : hb_G} {l : Launch} {z : Bool} : ∀ (n : Nat) (x0 : Nat) (x1 : Int32) (x2 : Int32) (x3 : Int32) (x4 : Int64) (x6 : Int32) (σ : hb_M) (r : (Int64 × hb_M)), f_X9_refersTo_b22 n x0 x1 x2 x3 x4 x6 σ = some r → hb_T G l z mX9_refersTo 1 0 0 22 [(0, .ref x0), (1, .int x1), (2, .int x2), (3, .int x3), (4, .long x4), (6, .int x6)] [] σ (.inl (some (.long r.1)), r.2) := by
  intro n
  induction n with
  | zero =>
    intro x0 x1 x2 x3 x4 x6 σ r h
    cases h
  | succ n ih =>
    intro x0 x1 x2 x3 x4 x6 σ r h
    rw [f_X9_refersTo_b22] at h
    refine hs_iload dX9_refersTo_22 5 rfl ?_
    refine hs_aload_n dX9_refersTo_24 0 rfl ?_
    obtain ⟨r1, h1, h⟩ := hb_bind h
    refine hs_getR dX9_refersTo_25 lkX9_7 rfl h1 ?_
    refine hs_iload_n dX9_refersTo_28 1 rfl ?_
    obtain ⟨r2, h2, h⟩ := hb_bind h
    refine hs_callSi (μ' := mX9_at) (mc := 0) (ms := 0) (rc := 0) (rs := 0) (As := [.int x1]) (rest := [.ref r1, .int x6]) dX9_refersTo_29 lmX9_103 okX9_at rfl (by decide) rfl (Nat.le_of_ble_eq_true rfl) (c_X9_at h2) ?_
    refine hs_iconst (v := (2 : Int32)) dX9_refersTo_32 (by decide) ?_
    refine hs_iadd dX9_refersTo_33 ?_
    obtain ⟨r3, h3, h⟩ := hb_bind h
    refine hs_iald dX9_refersTo_34 h3 ?_
    refine hs_icmp_ge (tgt := 90) dX9_refersTo_35 (by decide) (fun hc4 => ?_) (fun hc4 => ?_)
    · rw [if_pos hc4] at h
      refine hs_lload dX9_refersTo_90 4 rfl ?_
      obtain rfl := Option.some.inj h
      exact hs_lreturn dX9_refersTo_92 rfl (fun _ => rfl)
    · rw [if_neg hc4] at h
      refine hs_aload_n dX9_refersTo_38 0 rfl ?_
      obtain ⟨r5, h5, h⟩ := hb_bind h
      refine hs_getR dX9_refersTo_39 lkX9_7 rfl h5 ?_
      refine hs_iload_n dX9_refersTo_42 1 rfl ?_
      obtain ⟨r6, h6, h⟩ := hb_bind h
      refine hs_callSi (μ' := mX9_at) (mc := 0) (ms := 0) (rc := 0) (rs := 0) (As := [.int x1]) (rest := [.ref r5]) dX9_refersTo_43 lmX9_103 okX9_at rfl (by decide) rfl (Nat.le_of_ble_eq_true rfl) (c_X9_at h6) ?_
      refine hs_iconst (v := (5 : Int32)) dX9_refersTo_46 (by decide) ?_
      refine hs_iadd dX9_refersTo_47 ?_
      refine hs_iload dX9_refersTo_48 5 rfl ?_
      refine hs_iadd dX9_refersTo_50 ?_
      obtain ⟨r7, h7, h⟩ := hb_bind h
      refine hs_iald dX9_refersTo_51 h7 ?_
      refine hs_istore (lv' := [(7, .int r7), (0, .ref x0), (1, .int x1), (2, .int x2), (3, .int x3), (4, .long x4), (6, .int x6)]) dX9_refersTo_52 (by decide) rfl ?_
      refine hs_lload dX9_refersTo_54 5 rfl ?_
      refine hs_iload dX9_refersTo_56 0 rfl ?_
      refine hs_iconst (v := (-1 : Int32)) dX9_refersTo_58 (by decide) ?_
      refine hs_icmp_eq (tgt := 73) dX9_refersTo_59 (by decide) (fun hc8 => ?_) (fun hc8 => ?_)
      · rw [if_pos hc8] at h
        refine hs_sub (lv' := [(0, .ref x0), (1, .int x1), (2, .int x2), (3, .int x3), (6, .int x6)]) [1, 2, 3, 4, 6] rfl ?_
        exact c_X9_refersTo_b73 (f_X9_refersTo_b22 n) ih h
      · rw [if_neg hc8] at h
        refine hs_iload_n dX9_refersTo_62 2 rfl ?_
        refine hs_iload_n dX9_refersTo_63 3 rfl ?_
        refine hs_icmp_ne (tgt := 77) dX9_refersTo_64 (by decide) (fun hc9 => ?_) (fun hc9 => ?_)
        · rw [if_neg hc9] at h
          refine hs_sub (lv' := [(0, .ref x0), (1, .int x1), (2, .int x2), (3, .int x3), (6, .int x6), (7, .int r7)]) [1, 2, 3, 4, 6, 0] rfl ?_
          exact c_X9_refersTo_b77 (f_X9_refersTo_b22 n) ih h
        · rw [if_pos hc9] at h
          refine hs_iload dX9_refersTo_67 6 rfl ?_
          refine hs_iload_n dX9_refersTo_69 4 rfl ?_
          refine hs_icmp_ne (tgt := 77) dX9_refersTo_70 (by decide) (fun hc10 => ?_) (fun hc10 => ?_)
          · rw [if_neg hc10] at h
            refine hs_sub (lv' := [(0, .ref x0), (1, .int x1), (2, .int x2), (3, .int x3), (6, .int x6), (7, .int r7)]) [1, 2, 3, 4, 6, 0] rfl ?_
            exact c_X9_refersTo_b77 (f_X9_refersTo_b22 n) ih h
          · rw [if_pos hc10] at h
            refine hs_sub (lv' := [(0, .ref x0), (1, .int x1), (2, .int x2), (3, .int x3), (6, .int x6)]) [1, 2, 3, 4, 6] rfl ?_
            exact c_X9_refersTo_b73 (f_X9_refersTo_b22 n) ih h
set_option maxHeartbeats 4000000 in
set_option maxRecDepth 20000 in
theorem c_X9_refersTo {G : hb_G} {l : Launch} {z : Bool} {x0 : Nat} {x1 : Int32} {x2 : Int32} {x3 : Int32} {σ : hb_M} {r : (Int64 × hb_M)} (h : f_X9_refersTo x0 x1 x2 x3 σ = some r) : hb_Call G l z 1 0 0 mX9_refersTo [.ref x0, .int x1, .int x2, .int x3] σ (.inl (some (.long r.1)), r.2) := by
  refine hb_met (by decide) (Nat.le_of_ble_eq_true rfl) ?_
  unfold f_X9_refersTo at h
  refine hs_lconst (v := (0 : Int64)) dX9_refersTo_0 (by decide) ?_
  refine hs_lstore (lv' := [(4, .long (0 : Int64)), (0, .ref x0), (1, .int x1), (2, .int x2), (3, .int x3)]) dX9_refersTo_1 (by decide) rfl ?_
  refine hs_aload_n dX9_refersTo_3 1 rfl ?_
  obtain ⟨r1, h1, h⟩ := hb_bind h
  refine hs_getR dX9_refersTo_4 lkX9_7 rfl h1 ?_
  refine hs_iload_n dX9_refersTo_7 2 rfl ?_
  obtain ⟨r2, h2, h⟩ := hb_bind h
  refine hs_callSi (μ' := mX9_at) (mc := 0) (ms := 0) (rc := 0) (rs := 0) (As := [.int x1]) (rest := [.ref r1]) dX9_refersTo_8 lmX9_103 okX9_at rfl (by decide) rfl (Nat.le_of_ble_eq_true rfl) (c_X9_at h2) ?_
  refine hs_iconst (v := (1 : Int32)) dX9_refersTo_11 (by decide) ?_
  refine hs_iadd dX9_refersTo_12 ?_
  obtain ⟨r3, h3, h⟩ := hb_bind h
  refine hs_iald dX9_refersTo_13 h3 ?_
  refine hs_bipush (v := (11 : Int32)) dX9_refersTo_14 (by decide) ?_
  refine hs_icmp_eq (tgt := 90) dX9_refersTo_16 (by decide) (fun hc4 => ?_) (fun hc4 => ?_)
  · rw [if_pos hc4] at h
    refine hs_lload dX9_refersTo_90 0 rfl ?_
    obtain rfl := Option.some.inj h
    exact hs_lreturn dX9_refersTo_92 rfl (fun _ => rfl)
  · rw [if_neg hc4] at h
    refine hs_iconst (v := (0 : Int32)) dX9_refersTo_19 (by decide) ?_
    refine hs_istore (lv' := [(6, .int (0 : Int32)), (4, .long (0 : Int64)), (0, .ref x0), (1, .int x1), (2, .int x2), (3, .int x3)]) dX9_refersTo_20 (by decide) rfl ?_
    refine hs_sub (lv' := [(0, .ref x0), (1, .int x1), (2, .int x2), (3, .int x3), (4, .long (0 : Int64)), (6, .int (0 : Int32))]) [2, 3, 4, 5, 1, 0] rfl ?_
    exact c_X9_refersTo_b22 hb_FU _ _ _ _ _ _ _ _ h
def mX9_reached : hb_Y := (yX9_reached, cX9_reached, 13, (some .long), [], false)
set_option maxHeartbeats 4000000 in
set_option maxRecDepth 20000 in
theorem c_X9_reached_b142 {G : hb_G} {l : Launch} {z : Bool}  (k76 : Nat → Int64 → Int32 → Int32 → Int64 → Int64 → hb_M → Option (Int64 × hb_M)) (hk76 : ∀ (x0 : Nat) (x1 : Int64) (x3 : Int32) (x4 : Int32) (x6 : Int64) (x8 : Int64) (σ : hb_M) (r : (Int64 × hb_M)), k76 x0 x1 x3 x4 x6 x8 σ = some r → hb_T G l z mX9_reached 2 0 0 76 [(0, .ref x0), (1, .long x1), (3, .int x3), (4, .int x4), (6, .long x6), (8, .long x8)] [] σ (.inl (some (.long r.1)), r.2)) (k102 : Nat → Int64 → Int32 → Int32 → Int64 → Int64 → Int64 → Int32 → hb_M → Option (Int64 × hb_M)) (hk102 : ∀ (x0 : Nat) (x1 : Int64) (x3 : Int32) (x4 : Int32) (x6 : Int64) (x8 : Int64) (x10 : Int64) (x12 : Int32) (σ : hb_M) (r : (Int64 × hb_M)), k102 x0 x1 x3 x4 x6 x8 x10 x12 σ = some r → hb_T G l z mX9_reached 2 0 0 102 [(0, .ref x0), (1, .long x1), (3, .int x3), (4, .int x4), (6, .long x6), (8, .long x8), (10, .long x10), (12, .int x12)] [] σ (.inl (some (.long r.1)), r.2))  {x0 : Nat} {x1 : Int64} {x3 : Int32} {x4 : Int32} {x8 : Int64} {x10 : Int64} {x12 : Int32} {s0 : Int64} {s1 : Int64} {σ : hb_M} {r : (Int64 × hb_M)} (h : f_X9_reached_b142 k76 k102 x0 x1 x3 x4 x8 x10 x12 s0 s1 σ = some r) : hb_T G l z mX9_reached 2 0 0 142 [(0, .ref x0), (1, .long x1), (3, .int x3), (4, .int x4), (8, .long x8), (10, .long x10), (12, .int x12)] [.long s1, .long s0] σ (.inl (some (.long r.1)), r.2) := by
  unfold f_X9_reached_b142 at h
  refine hs_lor dX9_reached_142 ?_
  refine hs_lstore (lv' := [(6, .long (s0 ||| s1)), (0, .ref x0), (1, .long x1), (3, .int x3), (4, .int x4), (8, .long x8), (10, .long x10), (12, .int x12)]) dX9_reached_143 (by decide) rfl ?_
  refine hs_iinc2 (k := (1 : Int32)) (lv' := [(12, .int (x12 + (1 : Int32))), (6, .long (s0 ||| s1)), (0, .ref x0), (1, .long x1), (3, .int x3), (4, .int x4), (8, .long x8), (10, .long x10)]) dX9_reached_145 (by decide) 7 rfl (by decide) rfl ?_
  refine hs_goto (tgt := 102) dX9_reached_148 (by decide) ?_
  refine hs_sub (lv' := [(0, .ref x0), (1, .long x1), (3, .int x3), (4, .int x4), (6, .long (s0 ||| s1)), (8, .long x8), (10, .long x10), (12, .int (x12 + (1 : Int32)))]) [2, 3, 4, 5, 1, 6, 7, 0] rfl ?_
  exact hk102 _ _ _ _ _ _ _ _ _ _ h
set_option maxHeartbeats 4000000 in
set_option maxRecDepth 20000 in
theorem c_X9_reached_b102 {G : hb_G} {l : Launch} {z : Bool}  (k76 : Nat → Int64 → Int32 → Int32 → Int64 → Int64 → hb_M → Option (Int64 × hb_M)) (hk76 : ∀ (x0 : Nat) (x1 : Int64) (x3 : Int32) (x4 : Int32) (x6 : Int64) (x8 : Int64) (σ : hb_M) (r : (Int64 × hb_M)), k76 x0 x1 x3 x4 x6 x8 σ = some r → hb_T G l z mX9_reached 2 0 0 76 [(0, .ref x0), (1, .long x1), (3, .int x3), (4, .int x4), (6, .long x6), (8, .long x8)] [] σ (.inl (some (.long r.1)), r.2)) : ∀ (n : Nat) (x0 : Nat) (x1 : Int64) (x3 : Int32) (x4 : Int32) (x6 : Int64) (x8 : Int64) (x10 : Int64) (x12 : Int32) (σ : hb_M) (r : (Int64 × hb_M)), f_X9_reached_b102 k76 n x0 x1 x3 x4 x6 x8 x10 x12 σ = some r → hb_T G l z mX9_reached 2 0 0 102 [(0, .ref x0), (1, .long x1), (3, .int x3), (4, .int x4), (6, .long x6), (8, .long x8), (10, .long x10), (12, .int x12)] [] σ (.inl (some (.long r.1)), r.2) := by
  intro n
  induction n with
  | zero =>
    intro x0 x1 x3 x4 x6 x8 x10 x12 σ r h
    cases h
  | succ n ih =>
    intro x0 x1 x3 x4 x6 x8 x10 x12 σ r h
    rw [f_X9_reached_b102] at h
    refine hs_iload dX9_reached_102 7 rfl ?_
    refine hs_bipush (v := (40 : Int32)) dX9_reached_104 (by decide) ?_
    refine hs_icmp_ge (tgt := 151) dX9_reached_106 (by decide) (fun hc1 => ?_) (fun hc1 => ?_)
    · rw [if_pos hc1] at h
      refine hs_goto (tgt := 76) dX9_reached_151 (by decide) ?_
      refine hs_sub (lv' := [(0, .ref x0), (1, .long x1), (3, .int x3), (4, .int x4), (6, .long x6), (8, .long x8)]) [0, 1, 2, 3, 4, 5] rfl ?_
      exact hk76 _ _ _ _ _ _ _ _ h
    · rw [if_neg hc1] at h
      refine hs_lload dX9_reached_109 4 rfl ?_
      refine hs_lload dX9_reached_111 6 rfl ?_
      refine hs_iload dX9_reached_113 7 rfl ?_
      refine hs_lshr dX9_reached_115 ?_
      refine hs_lconst (v := (1 : Int64)) dX9_reached_116 (by decide) ?_
      refine hs_land dX9_reached_117 ?_
      refine hs_lconst (v := (1 : Int64)) dX9_reached_118 (by decide) ?_
      refine hs_lcmp dX9_reached_119 ?_
      refine hs_if_ne (tgt := 141) dX9_reached_120 (by decide) (fun hc2 => ?_) (fun hc2 => ?_)
      · rw [if_neg hc2] at h
        refine hs_lconst (v := (0 : Int64)) dX9_reached_141 (by decide) ?_
        refine hs_sub (lv' := [(0, .ref x0), (1, .long x1), (3, .int x3), (4, .int x4), (8, .long x8), (10, .long x10), (12, .int x12)]) [0, 1, 2, 3, 5, 6, 7] rfl ?_
        exact c_X9_reached_b142 k76 hk76 (f_X9_reached_b102 k76 n) ih h
      · rw [if_pos hc2] at h
        refine hs_aload_n dX9_reached_123 0 rfl ?_
        refine hs_iload dX9_reached_124 7 rfl ?_
        refine hs_iload_n dX9_reached_126 2 rfl ?_
        refine hs_iload dX9_reached_127 3 rfl ?_
        obtain ⟨r3, h3, h⟩ := hb_bind h
        obtain ⟨h3, nf3, hb3⟩ := hb_on_at h3
        refine hs_callVl (μ' := mX9_refersTo) (mc := 0) (ms := 0) (rc := 0) (rs := 0) (As := [.int x12, .int x3, .int x4]) (rest := [.long x6]) (ci := 9) dX9_reached_129 lmX9_174 okX9_refersTo rfl (by decide) rfl (Nat.le_of_ble_eq_true rfl) rfl hb3 (c_X9_refersTo h3) ?_
        refine hs_lload_n dX9_reached_132 1 rfl ?_
        refine hs_ldc2 (v := (-1 : Int64)) dX9_reached_133 wd_1558 ?_
        refine hs_lxor dX9_reached_136 ?_
        refine hs_land dX9_reached_137 ?_
        refine hs_goto (tgt := 142) dX9_reached_138 (by decide) ?_
        refine hs_sub (lv' := [(0, .ref x0), (1, .long x1), (3, .int x3), (4, .int x4), (8, .long x8), (10, .long x10), (12, .int x12)]) [0, 1, 2, 3, 5, 6, 7] rfl ?_
        exact c_X9_reached_b142 k76 hk76 (f_X9_reached_b102 k76 n) ih h
set_option maxHeartbeats 4000000 in
set_option maxRecDepth 20000 in
theorem c_X9_reached_b76 {G : hb_G} {l : Launch} {z : Bool} : ∀ (n : Nat) (x0 : Nat) (x1 : Int64) (x3 : Int32) (x4 : Int32) (x6 : Int64) (x8 : Int64) (σ : hb_M) (r : (Int64 × hb_M)), f_X9_reached_b76 n x0 x1 x3 x4 x6 x8 σ = some r → hb_T G l z mX9_reached 2 0 0 76 [(0, .ref x0), (1, .long x1), (3, .int x3), (4, .int x4), (6, .long x6), (8, .long x8)] [] σ (.inl (some (.long r.1)), r.2) := by
  intro n
  induction n with
  | zero =>
    intro x0 x1 x3 x4 x6 x8 σ r h
    cases h
  | succ n ih =>
    intro x0 x1 x3 x4 x6 x8 σ r h
    rw [f_X9_reached_b76] at h
    refine hs_lload dX9_reached_76 5 rfl ?_
    refine hs_lload dX9_reached_78 4 rfl ?_
    refine hs_lcmp dX9_reached_80 ?_
    refine hs_if_eq (tgt := 154) dX9_reached_81 (by decide) (fun hc1 => ?_) (fun hc1 => ?_)
    · rw [if_pos hc1] at h
      refine hs_lload dX9_reached_154 4 rfl ?_
      obtain rfl := Option.some.inj h
      exact hs_lreturn dX9_reached_156 rfl (fun _ => rfl)
    · rw [if_neg hc1] at h
      refine hs_lload dX9_reached_84 4 rfl ?_
      refine hs_lload dX9_reached_86 5 rfl ?_
      refine hs_ldc2 (v := (-1 : Int64)) dX9_reached_88 wd_1558 ?_
      refine hs_lxor dX9_reached_91 ?_
      refine hs_land dX9_reached_92 ?_
      refine hs_lstore (lv' := [(10, .long (x6 &&& (x8 ^^^ (-1 : Int64)))), (0, .ref x0), (1, .long x1), (3, .int x3), (4, .int x4), (6, .long x6), (8, .long x8)]) dX9_reached_93 (by decide) rfl ?_
      refine hs_lload dX9_reached_95 5 rfl ?_
      refine hs_lstore (lv' := [(8, .long x6), (10, .long (x6 &&& (x8 ^^^ (-1 : Int64)))), (0, .ref x0), (1, .long x1), (3, .int x3), (4, .int x4), (6, .long x6)]) dX9_reached_97 (by decide) rfl ?_
      refine hs_iconst (v := (0 : Int32)) dX9_reached_99 (by decide) ?_
      refine hs_istore (lv' := [(12, .int (0 : Int32)), (8, .long x6), (10, .long (x6 &&& (x8 ^^^ (-1 : Int64)))), (0, .ref x0), (1, .long x1), (3, .int x3), (4, .int x4), (6, .long x6)]) dX9_reached_100 (by decide) rfl ?_
      refine hs_sub (lv' := [(0, .ref x0), (1, .long x1), (3, .int x3), (4, .int x4), (6, .long x6), (8, .long x6), (10, .long (x6 &&& (x8 ^^^ (-1 : Int64)))), (12, .int (0 : Int32))]) [3, 4, 5, 6, 7, 1, 2, 0] rfl ?_
      exact c_X9_reached_b102 (f_X9_reached_b76 n) ih hb_FU _ _ _ _ _ _ _ _ _ _ h
set_option maxHeartbeats 4000000 in
set_option maxRecDepth 20000 in
theorem c_X9_reached_b54 {G : hb_G} {l : Launch} {z : Bool}  (k6 : Nat → Int64 → Int32 → Int32 → Int32 → Int64 → Int32 → hb_M → Option (Int64 × hb_M)) (hk6 : ∀ (x0 : Nat) (x1 : Int64) (x3 : Int32) (x4 : Int32) (x5 : Int32) (x6 : Int64) (x8 : Int32) (σ : hb_M) (r : (Int64 × hb_M)), k6 x0 x1 x3 x4 x5 x6 x8 σ = some r → hb_T G l z mX9_reached 2 0 0 6 [(0, .ref x0), (1, .long x1), (3, .int x3), (4, .int x4), (5, .int x5), (6, .long x6), (8, .int x8)] [] σ (.inl (some (.long r.1)), r.2))  {x0 : Nat} {x1 : Int64} {x3 : Int32} {x4 : Int32} {x5 : Int32} {x8 : Int32} {s0 : Int64} {s1 : Int64} {σ : hb_M} {r : (Int64 × hb_M)} (h : f_X9_reached_b54 k6 x0 x1 x3 x4 x5 x8 s0 s1 σ = some r) : hb_T G l z mX9_reached 2 0 0 54 [(0, .ref x0), (1, .long x1), (3, .int x3), (4, .int x4), (5, .int x5), (8, .int x8)] [.long s1, .long s0] σ (.inl (some (.long r.1)), r.2) := by
  unfold f_X9_reached_b54 at h
  refine hs_lor dX9_reached_54 ?_
  refine hs_lstore (lv' := [(6, .long (s0 ||| s1)), (0, .ref x0), (1, .long x1), (3, .int x3), (4, .int x4), (5, .int x5), (8, .int x8)]) dX9_reached_55 (by decide) rfl ?_
  refine hs_iinc2 (k := (1 : Int32)) (lv' := [(8, .int (x8 + (1 : Int32))), (6, .long (s0 ||| s1)), (0, .ref x0), (1, .long x1), (3, .int x3), (4, .int x4), (5, .int x5)]) dX9_reached_57 (by decide) 6 rfl (by decide) rfl ?_
  refine hs_goto (tgt := 6) dX9_reached_60 (by decide) ?_
  refine hs_sub (lv' := [(0, .ref x0), (1, .long x1), (3, .int x3), (4, .int x4), (5, .int x5), (6, .long (s0 ||| s1)), (8, .int (x8 + (1 : Int32)))]) [2, 3, 4, 5, 6, 1, 0] rfl ?_
  exact hk6 _ _ _ _ _ _ _ _ _ h
set_option maxHeartbeats 4000000 in
set_option maxRecDepth 20000 in
theorem c_X9_reached_b53 {G : hb_G} {l : Launch} {z : Bool}  (k6 : Nat → Int64 → Int32 → Int32 → Int32 → Int64 → Int32 → hb_M → Option (Int64 × hb_M)) (hk6 : ∀ (x0 : Nat) (x1 : Int64) (x3 : Int32) (x4 : Int32) (x5 : Int32) (x6 : Int64) (x8 : Int32) (σ : hb_M) (r : (Int64 × hb_M)), k6 x0 x1 x3 x4 x5 x6 x8 σ = some r → hb_T G l z mX9_reached 2 0 0 6 [(0, .ref x0), (1, .long x1), (3, .int x3), (4, .int x4), (5, .int x5), (6, .long x6), (8, .int x8)] [] σ (.inl (some (.long r.1)), r.2))  {x0 : Nat} {x1 : Int64} {x3 : Int32} {x4 : Int32} {x5 : Int32} {x8 : Int32} {s0 : Int64} {σ : hb_M} {r : (Int64 × hb_M)} (h : f_X9_reached_b53 k6 x0 x1 x3 x4 x5 x8 s0 σ = some r) : hb_T G l z mX9_reached 2 0 0 53 [(0, .ref x0), (1, .long x1), (3, .int x3), (4, .int x4), (5, .int x5), (8, .int x8)] [.long s0] σ (.inl (some (.long r.1)), r.2) := by
  unfold f_X9_reached_b53 at h
  refine hs_lconst (v := (0 : Int64)) dX9_reached_53 (by decide) ?_
  refine hs_sub (lv' := [(0, .ref x0), (1, .long x1), (3, .int x3), (4, .int x4), (5, .int x5), (8, .int x8)]) [0, 1, 2, 3, 4, 5] rfl ?_
  exact c_X9_reached_b54 k6 hk6 h
set_option maxHeartbeats 4000000 in
set_option maxRecDepth 20000 in
theorem c_X9_reached_b6 {G : hb_G} {l : Launch} {z : Bool} : ∀ (n : Nat) (x0 : Nat) (x1 : Int64) (x3 : Int32) (x4 : Int32) (x5 : Int32) (x6 : Int64) (x8 : Int32) (σ : hb_M) (r : (Int64 × hb_M)), f_X9_reached_b6 n x0 x1 x3 x4 x5 x6 x8 σ = some r → hb_T G l z mX9_reached 2 0 0 6 [(0, .ref x0), (1, .long x1), (3, .int x3), (4, .int x4), (5, .int x5), (6, .long x6), (8, .int x8)] [] σ (.inl (some (.long r.1)), r.2) := by
  intro n
  induction n with
  | zero =>
    intro x0 x1 x3 x4 x5 x6 x8 σ r h
    cases h
  | succ n ih =>
    intro x0 x1 x3 x4 x5 x6 x8 σ r h
    rw [f_X9_reached_b6] at h
    refine hs_iload dX9_reached_6 6 rfl ?_
    refine hs_bipush (v := (40 : Int32)) dX9_reached_8 (by decide) ?_
    refine hs_icmp_ge (tgt := 63) dX9_reached_10 (by decide) (fun hc1 => ?_) (fun hc1 => ?_)
    · rw [if_pos hc1] at h
      refine hs_lload dX9_reached_63 5 rfl ?_
      refine hs_lload_n dX9_reached_65 1 rfl ?_
      refine hs_ldc2 (v := (-1 : Int64)) dX9_reached_66 wd_1558 ?_
      refine hs_lxor dX9_reached_69 ?_
      refine hs_land dX9_reached_70 ?_
      refine hs_lstore (lv' := [(6, .long (x6 &&& (x1 ^^^ (-1 : Int64)))), (0, .ref x0), (1, .long x1), (3, .int x3), (4, .int x4), (5, .int x5), (8, .int x8)]) dX9_reached_71 (by decide) rfl ?_
      refine hs_lconst (v := (0 : Int64)) dX9_reached_73 (by decide) ?_
      refine hs_lstore (lv' := [(8, .long (0 : Int64)), (6, .long (x6 &&& (x1 ^^^ (-1 : Int64)))), (0, .ref x0), (1, .long x1), (3, .int x3), (4, .int x4), (5, .int x5)]) dX9_reached_74 (by decide) rfl ?_
      refine hs_sub (lv' := [(0, .ref x0), (1, .long x1), (3, .int x3), (4, .int x4), (6, .long (x6 &&& (x1 ^^^ (-1 : Int64)))), (8, .long (0 : Int64))]) [2, 3, 4, 5, 1, 0] rfl ?_
      exact c_X9_reached_b76 hb_FU _ _ _ _ _ _ _ _ h
    · rw [if_neg hc1] at h
      refine hs_lload dX9_reached_13 5 rfl ?_
      refine hs_aload_n dX9_reached_15 0 rfl ?_
      refine hs_iload dX9_reached_16 6 rfl ?_
      obtain ⟨r2, h2, h⟩ := hb_bind h
      obtain ⟨h2, nf2, hb2⟩ := hb_on_at h2
      refine hs_callVi (μ' := mX9_isObject) (mc := 0) (ms := 0) (rc := 0) (rs := 0) (As := [.int x8]) (rest := [.long x6]) (ci := 9) dX9_reached_18 lmX9_106 okX9_isObject rfl (by decide) rfl (Nat.le_of_ble_eq_true rfl) rfl hb2 (c_X9_isObject h2) ?_
      refine hs_if_eq (tgt := 53) dX9_reached_21 (by decide) (fun hc3 => ?_) (fun hc3 => ?_)
      · rw [if_pos hc3] at h
        refine hs_sub (lv' := [(0, .ref x0), (1, .long x1), (3, .int x3), (4, .int x4), (5, .int x5), (8, .int x8)]) [0, 1, 2, 3, 4, 6] rfl ?_
        exact c_X9_reached_b53 (f_X9_reached_b6 n) ih h
      · rw [if_neg hc3] at h
        refine hs_aload_n dX9_reached_24 0 rfl ?_
        obtain ⟨r4, h4, h⟩ := hb_bind h
        refine hs_getR dX9_reached_25 lkX9_7 rfl h4 ?_
        refine hs_iload dX9_reached_28 6 rfl ?_
        obtain ⟨r5, h5, h⟩ := hb_bind h
        refine hs_callSi (μ' := mX9_at) (mc := 0) (ms := 0) (rc := 0) (rs := 0) (As := [.int x8]) (rest := [.ref r4, .long x6]) dX9_reached_30 lmX9_103 okX9_at rfl (by decide) rfl (Nat.le_of_ble_eq_true rfl) (c_X9_at h5) ?_
        refine hs_iconst (v := (4 : Int32)) dX9_reached_33 (by decide) ?_
        refine hs_iadd dX9_reached_34 ?_
        obtain ⟨r6, h6, h⟩ := hb_bind h
        refine hs_iald dX9_reached_35 h6 ?_
        refine hs_if_eq (tgt := 53) dX9_reached_36 (by decide) (fun hc7 => ?_) (fun hc7 => ?_)
        · rw [if_pos hc7] at h
          refine hs_sub (lv' := [(0, .ref x0), (1, .long x1), (3, .int x3), (4, .int x4), (5, .int x5), (8, .int x8)]) [0, 1, 2, 3, 4, 6] rfl ?_
          exact c_X9_reached_b53 (f_X9_reached_b6 n) ih h
        · rw [if_neg hc7] at h
          refine hs_iload dX9_reached_39 6 rfl ?_
          refine hs_iload dX9_reached_41 4 rfl ?_
          refine hs_icmp_eq (tgt := 53) dX9_reached_43 (by decide) (fun hc8 => ?_) (fun hc8 => ?_)
          · rw [if_pos hc8] at h
            refine hs_sub (lv' := [(0, .ref x0), (1, .long x1), (3, .int x3), (4, .int x4), (5, .int x5), (8, .int x8)]) [0, 1, 2, 3, 4, 6] rfl ?_
            exact c_X9_reached_b53 (f_X9_reached_b6 n) ih h
          · rw [if_neg hc8] at h
            refine hs_lconst (v := (1 : Int64)) dX9_reached_46 (by decide) ?_
            refine hs_iload dX9_reached_47 6 rfl ?_
            refine hs_lshl dX9_reached_49 ?_
            refine hs_goto (tgt := 54) dX9_reached_50 (by decide) ?_
            refine hs_sub (lv' := [(0, .ref x0), (1, .long x1), (3, .int x3), (4, .int x4), (5, .int x5), (8, .int x8)]) [0, 1, 2, 3, 4, 6] rfl ?_
            exact c_X9_reached_b54 (f_X9_reached_b6 n) ih h
set_option maxHeartbeats 4000000 in
set_option maxRecDepth 20000 in
theorem c_X9_reached {G : hb_G} {l : Launch} {z : Bool} {x0 : Nat} {x1 : Int64} {x3 : Int32} {x4 : Int32} {x5 : Int32} {σ : hb_M} {r : (Int64 × hb_M)} (h : f_X9_reached x0 x1 x3 x4 x5 σ = some r) : hb_Call G l z 2 0 0 mX9_reached [.ref x0, .long x1, .int x3, .int x4, .int x5] σ (.inl (some (.long r.1)), r.2) := by
  refine hb_met (by decide) (Nat.le_of_ble_eq_true rfl) ?_
  unfold f_X9_reached at h
  refine hs_lconst (v := (0 : Int64)) dX9_reached_0 (by decide) ?_
  refine hs_lstore (lv' := [(6, .long (0 : Int64)), (0, .ref x0), (1, .long x1), (3, .int x3), (4, .int x4), (5, .int x5)]) dX9_reached_1 (by decide) rfl ?_
  refine hs_iconst (v := (0 : Int32)) dX9_reached_3 (by decide) ?_
  refine hs_istore (lv' := [(8, .int (0 : Int32)), (6, .long (0 : Int64)), (0, .ref x0), (1, .long x1), (3, .int x3), (4, .int x4), (5, .int x5)]) dX9_reached_4 (by decide) rfl ?_
  refine hs_sub (lv' := [(0, .ref x0), (1, .long x1), (3, .int x3), (4, .int x4), (5, .int x5), (6, .long (0 : Int64)), (8, .int (0 : Int32))]) [2, 3, 4, 5, 6, 1, 0] rfl ?_
  exact c_X9_reached_b6 hb_FU _ _ _ _ _ _ _ _ _ h
