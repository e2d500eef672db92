theorem okX9_reached : hb_okV mX9_reached 4 := ⟨⟨hb_w 11 (by decide +kernel) (by decide +kernel), hb_w 1557 (by decide +kernel) (by decide +kernel), ⟨by decide +kernel, by decide +kernel, by decide +kernel⟩, by decide⟩, hb_w 1556 (by decide +kernel) (by decide +kernel), hb_wp (q := (yX9_reached, 29)) 52 (by decide +kernel) (by decide +kernel)⟩
theorem okX9_sizes : hb_okV mX9_sizes 1 := ⟨⟨hb_w 11 (by decide +kernel) (by decide +kernel), hb_w 1669 (by decide +kernel) (by decide +kernel), ⟨by decide +kernel, by decide +kernel, by decide +kernel⟩, by decide⟩, hb_w 1668 (by decide +kernel) (by decide +kernel), hb_wp (q := (yX9_sizes, 29)) 67 (by decide +kernel) (by decide +kernel)⟩
def mX9_collects : hb_Y := (yX9_collects, cX9_collects, 6, (some .int), [], false)
theorem okX9_collects : hb_okV mX9_collects 0 := ⟨⟨hb_w 11 (by decide +kernel) (by decide +kernel), hb_w 1553 (by decide +kernel) (by decide +kernel), ⟨by decide +kernel, by decide +kernel, by decide +kernel⟩, by decide⟩, hb_w 1552 (by decide +kernel) (by decide +kernel), hb_wp (q := (yX9_collects, 29)) 51 (by decide +kernel) (by decide +kernel)⟩
set_option maxHeartbeats 4000000 in
set_option maxRecDepth 20000 in
theorem c_X9_collects_b211 {G : hb_G} {l : Launch} {z : Bool}  (k99 : Nat → Int32 → Int32 → hb_M → Option (Int32 × hb_M)) (hk99 : ∀ (x0 : Nat) (x3 : Int32) (x4 : Int32) (σ : hb_M) (r : (Int32 × hb_M)), k99 x0 x3 x4 σ = some r → hb_T G l z mX9_collects 3 0 0 99 [(0, .ref x0), (3, .int x3), (4, .int x4)] [] σ (.inl (some (.int r.1)), r.2))  {x0 : Nat} {x3 : Int32} {x4 : Int32} {σ : hb_M} {r : (Int32 × hb_M)} (h : f_X9_collects_b211 k99 x0 x3 x4 σ = some r) : hb_T G l z mX9_collects 3 0 0 211 [(0, .ref x0), (3, .int x3), (4, .int x4)] [] σ (.inl (some (.int r.1)), r.2) := by
  unfold f_X9_collects_b211 at h
  refine hs_iinc2 (k := (1 : Int32)) (lv' := [(4, .int (x4 + (1 : Int32))), (0, .ref x0), (3, .int x3)]) dX9_collects_211 (by decide) 2 rfl (by decide) rfl ?_
  refine hs_goto (tgt := 99) dX9_collects_214 (by decide) ?_
  refine hs_sub (lv' := [(0, .ref x0), (3, .int x3), (4, .int (x4 + (1 : Int32)))]) [1, 2, 0] rfl ?_
  exact hk99 _ _ _ _ _ h
set_option maxHeartbeats 4000000 in
set_option maxRecDepth 20000 in
theorem c_X9_collects_b209 {G : hb_G} {l : Launch} {z : Bool}  (k99 : Nat → Int32 → Int32 → hb_M → Option (Int32 × hb_M)) (hk99 : ∀ (x0 : Nat) (x3 : Int32) (x4 : Int32) (σ : hb_M) (r : (Int32 × hb_M)), k99 x0 x3 x4 σ = some r → hb_T G l z mX9_collects 3 0 0 99 [(0, .ref x0), (3, .int x3), (4, .int x4)] [] σ (.inl (some (.int r.1)), r.2))  {x0 : Nat} {x3 : Int32} {x4 : Int32} {s0 : Nat} {s1 : Int32} {s2 : Int32} {s3 : Int32} {σ : hb_M} {r : (Int32 × hb_M)} (h : f_X9_collects_b209 k99 x0 x3 x4 s0 s1 s2 s3 σ = some r) : hb_T G l z mX9_collects 3 0 0 209 [(0, .ref x0), (3, .int x3), (4, .int x4)] [.int s3, .int s2, .int s1, .ref s0] σ (.inl (some (.int r.1)), r.2) := by
  unfold f_X9_collects_b209 at h
  refine hs_iadd dX9_collects_209 ?_
  obtain ⟨r1, h1, h⟩ := hb_bind h
  refine hs_iast dX9_collects_210 h1 ?_
  refine hs_sub (lv' := [(0, .ref x0), (3, .int x3), (4, .int x4)]) [0, 1, 2] rfl ?_
  exact c_X9_collects_b211 k99 hk99 h
set_option maxHeartbeats 4000000 in
set_option maxRecDepth 20000 in
theorem c_X9_collects_b174 {G : hb_G} {l : Launch} {z : Bool}  (k99 : Nat → Int32 → Int32 → hb_M → Option (Int32 × hb_M)) (hk99 : ∀ (x0 : Nat) (x3 : Int32) (x4 : Int32) (σ : hb_M) (r : (Int32 × hb_M)), k99 x0 x3 x4 σ = some r → hb_T G l z mX9_collects 3 0 0 99 [(0, .ref x0), (3, .int x3), (4, .int x4)] [] σ (.inl (some (.int r.1)), r.2))  {x0 : Nat} {x3 : Int32} {x4 : Int32} {σ : hb_M} {r : (Int32 × hb_M)} (h : f_X9_collects_b174 k99 x0 x3 x4 σ = some r) : hb_T G l z mX9_collects 3 0 0 174 [(0, .ref x0), (3, .int x3), (4, .int x4)] [] σ (.inl (some (.int r.1)), r.2) := by
  unfold f_X9_collects_b174 at h
  refine hs_aload_n dX9_collects_174 0 rfl ?_
  obtain ⟨r1, h1, h⟩ := hb_bind h
  refine hs_getR dX9_collects_175 lkX9_7 rfl h1 ?_
  refine hs_iload dX9_collects_178 2 rfl ?_
  obtain ⟨r2, h2, h⟩ := hb_bind h
  refine hs_callSi (μ' := mX9_at) (mc := 0) (ms := 0) (rc := 0) (rs := 0) (As := [.int x4]) (rest := [.ref r1]) dX9_collects_180 lmX9_103 okX9_at rfl (by decide) rfl (Nat.le_of_ble_eq_true rfl) (c_X9_at h2) ?_
  refine hs_iconst (v := (3 : Int32)) dX9_collects_183 (by decide) ?_
  refine hs_iadd dX9_collects_184 ?_
  refine hs_dup2 dX9_collects_185 rfl rfl ?_
  obtain ⟨r3, h3, h⟩ := hb_bind h
  refine hs_iald dX9_collects_186 h3 ?_
  refine hs_aload_n dX9_collects_187 0 rfl ?_
  obtain ⟨r4, h4, h⟩ := hb_bind h
  refine hs_getR dX9_collects_188 lkX9_7 rfl h4 ?_
  refine hs_iload dX9_collects_191 2 rfl ?_
  obtain ⟨r5, h5, h⟩ := hb_bind h
  refine hs_callSi (μ' := mX9_at) (mc := 0) (ms := 0) (rc := 0) (rs := 0) (As := [.int x4]) (rest := [.ref r4, .int r3, .int (r2.1 + (3 : Int32)), .ref r1]) dX9_collects_193 lmX9_103 okX9_at rfl (by decide) rfl (Nat.le_of_ble_eq_true rfl) (c_X9_at h5) ?_
  refine hs_iconst (v := (3 : Int32)) dX9_collects_196 (by decide) ?_
  refine hs_iadd dX9_collects_197 ?_
  obtain ⟨r6, h6, h⟩ := hb_bind h
  refine hs_iald dX9_collects_198 h6 ?_
  refine hs_bipush (v := (99 : Int32)) dX9_collects_199 (by decide) ?_
  refine hs_icmp_ge (tgt := 208) dX9_collects_201 (by decide) (fun hc7 => ?_) (fun hc7 => ?_)
  · rw [if_pos hc7] at h
    refine hs_iconst (v := (0 : Int32)) dX9_collects_208 (by decide) ?_
    refine hs_sub (lv' := [(0, .ref x0), (3, .int x3), (4, .int x4)]) [0, 1, 2] rfl ?_
    exact c_X9_collects_b209 k99 hk99 h
  · rw [if_neg hc7] at h
    refine hs_iconst (v := (1 : Int32)) dX9_collects_204 (by decide) ?_
    refine hs_goto (tgt := 209) dX9_collects_205 (by decide) ?_
    refine hs_sub (lv' := [(0, .ref x0), (3, .int x3), (4, .int x4)]) [0, 1, 2] rfl ?_
    exact c_X9_collects_b209 k99 hk99 h
set_option maxHeartbeats 4000000 in
set_option maxRecDepth 20000 in
theorem c_X9_collects_b99 {G : hb_G} {l : Launch} {z : Bool} : ∀ (n : Nat) (x0 : Nat) (x3 : Int32) (x4 : Int32) (σ : hb_M) (r : (Int32 × hb_M)), f_X9_collects_b99 n x0 x3 x4 σ = some r → hb_T G l z mX9_collects 3 0 0 99 [(0, .ref x0), (3, .int x3), (4, .int x4)] [] σ (.inl (some (.int r.1)), r.2) := by
  intro n
  induction n with
  | zero =>
    intro x0 x3 x4 σ r h
    cases h
  | succ n ih =>
    intro x0 x3 x4 σ r h
    rw [f_X9_collects_b99] at h
    refine hs_iload dX9_collects_99 2 rfl ?_
    refine hs_bipush (v := (40 : Int32)) dX9_collects_101 (by decide) ?_
    refine hs_icmp_ge (tgt := 217) dX9_collects_103 (by decide) (fun hc1 => ?_) (fun hc1 => ?_)
    · rw [if_pos hc1] at h
      refine hs_iload_n dX9_collects_217 1 rfl ?_
      obtain rfl := Option.some.inj h
      exact hs_ireturn dX9_collects_218 rfl (by rfl) (fun _ => rfl)
    · rw [if_neg hc1] at h
      refine hs_aload_n dX9_collects_106 0 rfl ?_
      refine hs_iload dX9_collects_107 2 rfl ?_
      obtain ⟨r2, h2, h⟩ := hb_bind h
      obtain ⟨h2, nf2, hb2⟩ := hb_on_at h2
      refine hs_callVi (μ' := mX9_isObject) (mc := 0) (ms := 0) (rc := 0) (rs := 0) (As := [.int x4]) (rest := []) (ci := 9) dX9_collects_109 lmX9_106 okX9_isObject rfl (by decide) rfl (Nat.le_of_ble_eq_true rfl) rfl hb2 (c_X9_isObject h2) ?_
      refine hs_if_eq (tgt := 211) dX9_collects_112 (by decide) (fun hc3 => ?_) (fun hc3 => ?_)
      · rw [if_pos hc3] at h
        refine hs_sub (lv' := [(0, .ref x0), (3, .int x3), (4, .int x4)]) [0, 1, 2] rfl ?_
        exact c_X9_collects_b211 (f_X9_collects_b99 n) ih h
      · rw [if_neg hc3] at h
        refine hs_aload_n dX9_collects_115 0 rfl ?_
        obtain ⟨r4, h4, h⟩ := hb_bind h
        refine hs_getR dX9_collects_116 lkX9_7 rfl h4 ?_
        refine hs_iload dX9_collects_119 2 rfl ?_
        obtain ⟨r5, h5, h⟩ := hb_bind h
        refine hs_callSi (μ' := mX9_at) (mc := 0) (ms := 0) (rc := 0) (rs := 0) (As := [.int x4]) (rest := [.ref r4]) dX9_collects_121 lmX9_103 okX9_at rfl (by decide) rfl (Nat.le_of_ble_eq_true rfl) (c_X9_at h5) ?_
        refine hs_iconst (v := (5 : Int32)) dX9_collects_124 (by decide) ?_
        refine hs_iadd dX9_collects_125 ?_
        obtain ⟨r6, h6, h⟩ := hb_bind h
        refine hs_iald dX9_collects_126 h6 ?_
        refine hs_istore (lv' := [(5, .int r6), (0, .ref x0), (3, .int x3), (4, .int x4)]) dX9_collects_127 (by decide) rfl ?_
        refine hs_aload_n dX9_collects_129 1 rfl ?_
        obtain ⟨r7, h7, h⟩ := hb_bind h
        refine hs_getR dX9_collects_130 lkX9_7 rfl h7 ?_
        refine hs_iload dX9_collects_133 3 rfl ?_
        obtain ⟨r8, h8, h⟩ := hb_bind h
        refine hs_callSi (μ' := mX9_at) (mc := 0) (ms := 0) (rc := 0) (rs := 0) (As := [.int x4]) (rest := [.ref r7]) dX9_collects_135 lmX9_103 okX9_at rfl (by decide) rfl (Nat.le_of_ble_eq_true rfl) (c_X9_at h8) ?_
        refine hs_iconst (v := (1 : Int32)) dX9_collects_138 (by decide) ?_
        refine hs_iadd dX9_collects_139 ?_
        obtain ⟨r9, h9, h⟩ := hb_bind h
        refine hs_iald dX9_collects_140 h9 ?_
        refine hs_bipush (v := (11 : Int32)) dX9_collects_141 (by decide) ?_
        refine hs_icmp_ne (tgt := 174) dX9_collects_143 (by decide) (fun hc10 => ?_) (fun hc10 => ?_)
        · rw [if_neg hc10] at h
          refine hs_sub (lv' := [(0, .ref x0), (3, .int x3), (4, .int x4)]) [1, 2, 3] rfl ?_
          exact c_X9_collects_b174 (f_X9_collects_b99 n) ih h
        · rw [if_pos hc10] at h
          refine hs_iload dX9_collects_146 0 rfl ?_
          refine hs_iconst (v := (-1 : Int32)) dX9_collects_148 (by decide) ?_
          refine hs_icmp_eq (tgt := 174) dX9_collects_149 (by decide) (fun hc11 => ?_) (fun hc11 => ?_)
          · rw [if_pos hc11] at h
            refine hs_sub (lv' := [(0, .ref x0), (3, .int x3), (4, .int x4)]) [1, 2, 3] rfl ?_
            exact c_X9_collects_b174 (f_X9_collects_b99 n) ih h
          · rw [if_neg hc11] at h
            refine hs_aload_n dX9_collects_152 1 rfl ?_
            refine hs_iload dX9_collects_153 0 rfl ?_
            obtain ⟨r12, h12, h⟩ := hb_bind h
            obtain ⟨h12, nf12, hb12⟩ := hb_on_at h12
            refine hs_callVi (μ' := mX9_isObject) (mc := 0) (ms := 0) (rc := 0) (rs := 0) (As := [.int r6]) (rest := []) (ci := 9) dX9_collects_155 lmX9_106 okX9_isObject rfl (by decide) rfl (Nat.le_of_ble_eq_true rfl) rfl hb12 (c_X9_isObject h12) ?_
            refine hs_if_ne (tgt := 174) dX9_collects_158 (by decide) (fun hc13 => ?_) (fun hc13 => ?_)
            · rw [if_neg hc13] at h
              refine hs_sub (lv' := [(0, .ref x0), (3, .int x3), (4, .int x4)]) [1, 2, 3] rfl ?_
              exact c_X9_collects_b174 (f_X9_collects_b99 n) ih h
            · rw [if_pos hc13] at h
              refine hs_aload_n dX9_collects_161 1 rfl ?_
              obtain ⟨r14, h14, h⟩ := hb_bind h
              refine hs_getR dX9_collects_162 lkX9_7 rfl h14 ?_
              refine hs_iload dX9_collects_165 3 rfl ?_
              obtain ⟨r15, h15, h⟩ := hb_bind h
              refine hs_callSi (μ' := mX9_at) (mc := 0) (ms := 0) (rc := 0) (rs := 0) (As := [.int x4]) (rest := [.ref r14]) dX9_collects_167 lmX9_103 okX9_at rfl (by decide) rfl (Nat.le_of_ble_eq_true rfl) (c_X9_at h15) ?_
              refine hs_iconst (v := (5 : Int32)) dX9_collects_170 (by decide) ?_
              refine hs_iadd dX9_collects_171 ?_
              refine hs_iconst (v := (-1 : Int32)) dX9_collects_172 (by decide) ?_
              obtain ⟨r16, h16, h⟩ := hb_bind h
              refine hs_iast dX9_collects_173 h16 ?_
              refine hs_sub (lv' := [(0, .ref x0), (3, .int x3), (4, .int x4)]) [1, 2, 3] rfl ?_
              exact c_X9_collects_b174 (f_X9_collects_b99 n) ih h
set_option maxHeartbeats 4000000 in
set_option maxRecDepth 20000 in
theorem c_X9_collects_b90 {G : hb_G} {l : Launch} {z : Bool}  (k59 : Nat → Int64 → Int32 → Int32 → hb_M → Option (Int32 × hb_M)) (hk59 : ∀ (x0 : Nat) (x1 : Int64) (x3 : Int32) (x4 : Int32) (σ : hb_M) (r : (Int32 × hb_M)), k59 x0 x1 x3 x4 σ = some r → hb_T G l z mX9_collects 3 0 0 59 [(0, .ref x0), (1, .long x1), (3, .int x3), (4, .int x4)] [] σ (.inl (some (.int r.1)), r.2))  {x0 : Nat} {x1 : Int64} {x3 : Int32} {x4 : Int32} {σ : hb_M} {r : (Int32 × hb_M)} (h : f_X9_collects_b90 k59 x0 x1 x3 x4 σ = some r) : hb_T G l z mX9_collects 3 0 0 90 [(0, .ref x0), (1, .long x1), (3, .int x3), (4, .int x4)] [] σ (.inl (some (.int r.1)), r.2) := by
  unfold f_X9_collects_b90 at h
  refine hs_iinc2 (k := (1 : Int32)) (lv' := [(4, .int (x4 + (1 : Int32))), (0, .ref x0), (1, .long x1), (3, .int x3)]) dX9_collects_90 (by decide) 3 rfl (by decide) rfl ?_
  refine hs_goto (tgt := 59) dX9_collects_93 (by decide) ?_
  refine hs_sub (lv' := [(0, .ref x0), (1, .long x1), (3, .int x3), (4, .int (x4 + (1 : Int32)))]) [1, 2, 3, 0] rfl ?_
  exact hk59 _ _ _ _ _ _ h
set_option maxHeartbeats 4000000 in
set_option maxRecDepth 20000 in
theorem c_X9_collects_b59 {G : hb_G} {l : Launch} {z : Bool} : ∀ (n : Nat) (x0 : Nat) (x1 : Int64) (x3 : Int32) (x4 : Int32) (σ : hb_M) (r : (Int32 × hb_M)), f_X9_collects_b59 n x0 x1 x3 x4 σ = some r → hb_T G l z mX9_collects 3 0 0 59 [(0, .ref x0), (1, .long x1), (3, .int x3), (4, .int x4)] [] σ (.inl (some (.int r.1)), r.2) := by
  intro n
  induction n with
  | zero =>
    intro x0 x1 x3 x4 σ r h
    cases h
  | succ n ih =>
    intro x0 x1 x3 x4 σ r h
    rw [f_X9_collects_b59] at h
    refine hs_iload dX9_collects_59 3 rfl ?_
    refine hs_bipush (v := (40 : Int32)) dX9_collects_61 (by decide) ?_
    refine hs_icmp_ge (tgt := 96) dX9_collects_63 (by decide) (fun hc1 => ?_) (fun hc1 => ?_)
    · rw [if_pos hc1] at h
      refine hs_iconst (v := (0 : Int32)) dX9_collects_96 (by decide) ?_
      refine hs_istore (lv' := [(4, .int (0 : Int32)), (0, .ref x0), (1, .long x1), (3, .int x3)]) dX9_collects_97 (by decide) rfl ?_
      refine hs_sub (lv' := [(0, .ref x0), (3, .int x3), (4, .int (0 : Int32))]) [1, 3, 0] rfl ?_
      exact c_X9_collects_b99 hb_FU _ _ _ _ _ h
    · rw [if_neg hc1] at h
      refine hs_lload_n dX9_collects_66 1 rfl ?_
      refine hs_iload dX9_collects_67 3 rfl ?_
      refine hs_lshr dX9_collects_69 ?_
      refine hs_lconst (v := (1 : Int64)) dX9_collects_70 (by decide) ?_
      refine hs_land dX9_collects_71 ?_
      refine hs_lconst (v := (0 : Int64)) dX9_collects_72 (by decide) ?_
      refine hs_lcmp dX9_collects_73 ?_
      refine hs_if_ne (tgt := 90) dX9_collects_74 (by decide) (fun hc2 => ?_) (fun hc2 => ?_)
      · rw [if_neg hc2] at h
        refine hs_sub (lv' := [(0, .ref x0), (1, .long x1), (3, .int x3), (4, .int x4)]) [0, 1, 2, 3] rfl ?_
        exact c_X9_collects_b90 (f_X9_collects_b59 n) ih h
      · rw [if_pos hc2] at h
        refine hs_aload_n dX9_collects_77 0 rfl ?_
        obtain ⟨r3, h3, h⟩ := hb_bind h
        refine hs_getR dX9_collects_78 lkX9_7 rfl h3 ?_
        refine hs_iload dX9_collects_81 3 rfl ?_
        obtain ⟨r4, h4, h⟩ := hb_bind h
        refine hs_callSi (μ' := mX9_at) (mc := 0) (ms := 0) (rc := 0) (rs := 0) (As := [.int x4]) (rest := [.ref r3]) dX9_collects_83 lmX9_103 okX9_at rfl (by decide) rfl (Nat.le_of_ble_eq_true rfl) (c_X9_at h4) ?_
        refine hs_iconst (v := (0 : Int32)) dX9_collects_86 (by decide) ?_
        refine hs_iadd dX9_collects_87 ?_
        refine hs_iconst (v := (0 : Int32)) dX9_collects_88 (by decide) ?_
        obtain ⟨r5, h5, h⟩ := hb_bind h
        refine hs_iast dX9_collects_89 h5 ?_
        refine hs_sub (lv' := [(0, .ref x0), (1, .long x1), (3, .int x3), (4, .int x4)]) [0, 1, 2, 3] rfl ?_
        exact c_X9_collects_b90 (f_X9_collects_b59 n) ih h
set_option maxHeartbeats 4000000 in
set_option maxRecDepth 20000 in
theorem c_X9_collects_b50 {G : hb_G} {l : Launch} {z : Bool}  (k14 : Nat → Int64 → Int32 → Int32 → hb_M → Option (Int32 × hb_M)) (hk14 : ∀ (x0 : Nat) (x1 : Int64) (x3 : Int32) (x4 : Int32) (σ : hb_M) (r : (Int32 × hb_M)), k14 x0 x1 x3 x4 σ = some r → hb_T G l z mX9_collects 3 0 0 14 [(0, .ref x0), (1, .long x1), (3, .int x3), (4, .int x4)] [] σ (.inl (some (.int r.1)), r.2))  {x0 : Nat} {x1 : Int64} {x3 : Int32} {x4 : Int32} {σ : hb_M} {r : (Int32 × hb_M)} (h : f_X9_collects_b50 k14 x0 x1 x3 x4 σ = some r) : hb_T G l z mX9_collects 3 0 0 50 [(0, .ref x0), (1, .long x1), (3, .int x3), (4, .int x4)] [] σ (.inl (some (.int r.1)), r.2) := by
  unfold f_X9_collects_b50 at h
  refine hs_iinc2 (k := (1 : Int32)) (lv' := [(4, .int (x4 + (1 : Int32))), (0, .ref x0), (1, .long x1), (3, .int x3)]) dX9_collects_50 (by decide) 3 rfl (by decide) rfl ?_
  refine hs_goto (tgt := 14) dX9_collects_53 (by decide) ?_
  refine hs_sub (lv' := [(0, .ref x0), (1, .long x1), (3, .int x3), (4, .int (x4 + (1 : Int32)))]) [1, 2, 3, 0] rfl ?_
  exact hk14 _ _ _ _ _ _ h
set_option maxHeartbeats 4000000 in
set_option maxRecDepth 20000 in
theorem c_X9_collects_b14 {G : hb_G} {l : Launch} {z : Bool} : ∀ (n : Nat) (x0 : Nat) (x1 : Int64) (x3 : Int32) (x4 : Int32) (σ : hb_M) (r : (Int32 × hb_M)), f_X9_collects_b14 n x0 x1 x3 x4 σ = some r → hb_T G l z mX9_collects 3 0 0 14 [(0, .ref x0), (1, .long x1), (3, .int x3), (4, .int x4)] [] σ (.inl (some (.int r.1)), r.2) := by
  intro n
  induction n with
  | zero =>
    intro x0 x1 x3 x4 σ r h
    cases h
  | succ n ih =>
    intro x0 x1 x3 x4 σ r h
    rw [f_X9_collects_b14] at h
    refine hs_iload dX9_collects_14 3 rfl ?_
    refine hs_bipush (v := (40 : Int32)) dX9_collects_16 (by decide) ?_
    refine hs_icmp_ge (tgt := 56) dX9_collects_18 (by decide) (fun hc1 => ?_) (fun hc1 => ?_)
    · rw [if_pos hc1] at h
      refine hs_iconst (v := (0 : Int32)) dX9_collects_56 (by decide) ?_
      refine hs_istore (lv' := [(4, .int (0 : Int32)), (0, .ref x0), (1, .long x1), (3, .int x3)]) dX9_collects_57 (by decide) rfl ?_
      refine hs_sub (lv' := [(0, .ref x0), (1, .long x1), (3, .int x3), (4, .int (0 : Int32))]) [1, 2, 3, 0] rfl ?_
      exact c_X9_collects_b59 hb_FU _ _ _ _ _ _ h
    · rw [if_neg hc1] at h
      refine hs_aload_n dX9_collects_21 0 rfl ?_
      refine hs_iload dX9_collects_22 3 rfl ?_
      obtain ⟨r2, h2, h⟩ := hb_bind h
      obtain ⟨h2, nf2, hb2⟩ := hb_on_at h2
      refine hs_callVi (μ' := mX9_isObject) (mc := 0) (ms := 0) (rc := 0) (rs := 0) (As := [.int x4]) (rest := []) (ci := 9) dX9_collects_24 lmX9_106 okX9_isObject rfl (by decide) rfl (Nat.le_of_ble_eq_true rfl) rfl hb2 (c_X9_isObject h2) ?_
      refine hs_if_eq (tgt := 50) dX9_collects_27 (by decide) (fun hc3 => ?_) (fun hc3 => ?_)
      · rw [if_pos hc3] at h
        refine hs_sub (lv' := [(0, .ref x0), (1, .long x1), (3, .int x3), (4, .int x4)]) [0, 1, 2, 3] rfl ?_
        exact c_X9_collects_b50 (f_X9_collects_b14 n) ih h
      · rw [if_neg hc3] at h
        refine hs_lload_n dX9_collects_30 1 rfl ?_
        refine hs_iload dX9_collects_31 3 rfl ?_
        refine hs_lshr dX9_collects_33 ?_
        refine hs_lconst (v := (1 : Int64)) dX9_collects_34 (by decide) ?_
        refine hs_land dX9_collects_35 ?_
        refine hs_lconst (v := (0 : Int64)) dX9_collects_36 (by decide) ?_
        refine hs_lcmp dX9_collects_37 ?_
        refine hs_if_ne (tgt := 50) dX9_collects_38 (by decide) (fun hc4 => ?_) (fun hc4 => ?_)
        · rw [if_neg hc4] at h
          refine hs_sub (lv' := [(0, .ref x0), (1, .long x1), (3, .int x3), (4, .int x4)]) [0, 1, 2, 3] rfl ?_
          exact c_X9_collects_b50 (f_X9_collects_b14 n) ih h
        · rw [if_pos hc4] at h
          refine hs_iload_n dX9_collects_41 2 rfl ?_
          refine hs_aload_n dX9_collects_42 0 rfl ?_
          refine hs_iload dX9_collects_43 3 rfl ?_
          obtain ⟨r5, h5, h⟩ := hb_bind h
          obtain ⟨h5, nf5, hb5⟩ := hb_on_at h5
          refine hs_callVi (μ' := mX9_sizeOf) (mc := 0) (ms := 0) (rc := 0) (rs := 0) (As := [.int x4]) (rest := [.int x3]) (ci := 9) dX9_collects_45 lmX9_109 okX9_sizeOf rfl (by decide) rfl (Nat.le_of_ble_eq_true rfl) rfl hb5 (c_X9_sizeOf h5) ?_
          refine hs_iadd dX9_collects_48 ?_
          refine hs_istore_n (lv' := [(3, .int (x3 + r5.1)), (0, .ref x0), (1, .long x1), (4, .int x4)]) dX9_collects_49 (by decide) rfl ?_
          refine hs_sub (lv' := [(0, .ref x0), (1, .long x1), (3, .int (x3 + r5.1)), (4, .int x4)]) [1, 2, 0, 3] rfl ?_
          exact c_X9_collects_b50 (f_X9_collects_b14 n) ih h
set_option maxHeartbeats 4000000 in
set_option maxRecDepth 20000 in
theorem c_X9_collects {G : hb_G} {l : Launch} {z : Bool} {x0 : Nat} {σ : hb_M} {r : (Int32 × hb_M)} (h : f_X9_collects x0 σ = some r) : hb_Call G l z 3 0 0 mX9_collects [.ref x0] σ (.inl (some (.int r.1)), r.2) := by
  refine hb_met (by decide) (Nat.le_of_ble_eq_true rfl) ?_
  unfold f_X9_collects at h
  refine hs_aload_n dX9_collects_0 0 rfl ?_
  refine hs_lconst (v := (0 : Int64)) dX9_collects_1 (by decide) ?_
  refine hs_iconst (v := (-1 : Int32)) dX9_collects_2 (by decide) ?_
  refine hs_iconst (v := (-1 : Int32)) dX9_collects_3 (by decide) ?_
  refine hs_iconst (v := (-1 : Int32)) dX9_collects_4 (by decide) ?_
  obtain ⟨r1, h1, h⟩ := hb_bind h
  obtain ⟨h1, nf1, hb1⟩ := hb_on_at h1
  refine hs_callVl (μ' := mX9_reached) (mc := 0) (ms := 0) (rc := 0) (rs := 0) (As := [.long (0 : Int64), .int (-1 : Int32), .int (-1 : Int32), .int (-1 : Int32)]) (rest := []) (ci := 9) dX9_collects_5 lmX9_138 okX9_reached rfl (by decide) rfl (Nat.le_of_ble_eq_true rfl) rfl hb1 (c_X9_reached h1) ?_
  refine hs_lstore_n (lv' := [(1, .long r1.1), (0, .ref x0)]) dX9_collects_8 (by decide) rfl ?_
  refine hs_iconst (v := (0 : Int32)) dX9_collects_9 (by decide) ?_
  refine hs_istore_n (lv' := [(3, .int (0 : Int32)), (1, .long r1.1), (0, .ref x0)]) dX9_collects_10 (by decide) rfl ?_
  refine hs_iconst (v := (0 : Int32)) dX9_collects_11 (by decide) ?_
  refine hs_istore (lv' := [(4, .int (0 : Int32)), (3, .int (0 : Int32)), (1, .long r1.1), (0, .ref x0)]) dX9_collects_12 (by decide) rfl ?_
  refine hs_sub (lv' := [(0, .ref x0), (1, .long r1.1), (3, .int (0 : Int32)), (4, .int (0 : Int32))]) [3, 2, 1, 0] rfl ?_
  exact c_X9_collects_b14 hb_FU _ _ _ _ _ _ h
def mX9_collect : hb_Y := (yX9_collect, cX9_collect, 1, (some .int), [], false)
set_option maxHeartbeats 4000000 in
set_option maxRecDepth 20000 in
theorem c_X9_collect {G : hb_G} {l : Launch} {z : Bool} {x0 : Nat} {σ : hb_M} {r : (Int32 × hb_M)} (h : f_X9_collect x0 σ = some r) : hb_Call G l z 4 0 0 mX9_collect [.ref x0] σ (.inl (some (.int r.1)), r.2) := by
  refine hb_met (by decide) (Nat.le_of_ble_eq_true rfl) ?_
  unfold f_X9_collect at h
  refine hs_aload_n dX9_collect_0 0 rfl ?_
  refine hs_iconst (v := (0 : Int32)) dX9_collect_1 (by decide) ?_
  obtain ⟨r1, h1, h⟩ := hb_bind h
  refine hs_putI dX9_collect_2 lpX9_collect_63 rfl h1 ?_
  refine hs_aload_n dX9_collect_5 0 rfl ?_
  obtain ⟨r2, h2, h⟩ := hb_bind h
  obtain ⟨h2, nf2, hb2⟩ := hb_on_at h2
  refine hs_callVv (μ' := mX9_saves) (mc := 0) (ms := 0) (rc := 0) (rs := 0) (As := []) (rest := []) (ci := 9) dX9_collect_6 lmX9_89 okX9_saves rfl (by decide) rfl (Nat.le_of_ble_eq_true rfl) rfl hb2 (c_X9_saves h2) ?_
  refine hs_aload_n dX9_collect_9 0 rfl ?_
  obtain ⟨r3, h3, h⟩ := hb_bind h
  obtain ⟨h3, nf3, hb3⟩ := hb_on_at h3
  refine hs_callVi (μ' := mX9_collects) (mc := 0) (ms := 0) (rc := 0) (rs := 0) (As := []) (rest := []) (ci := 9) dX9_collect_10 lmX9_142 okX9_collects rfl (by decide) rfl (Nat.le_of_ble_eq_true rfl) rfl hb3 (c_X9_collects h3) ?_
  obtain rfl := Option.some.inj h
  exact hs_ireturn dX9_collect_13 rfl (by rfl) (fun _ => rfl)
def mX9_objects : hb_Y := (yX9_objects, cX9_objects, 1, (some .int), [], false)
set_option maxHeartbeats 4000000 in
set_option maxRecDepth 20000 in
theorem c_X9_objects {G : hb_G} {l : Launch} {z : Bool} {x0 : Nat} {σ : hb_M} {r : (Int32 × hb_M)} (h : f_X9_objects x0 σ = some r) : hb_Call G l z 3 0 0 mX9_objects [.ref x0] σ (.inl (some (.int r.1)), r.2) := by
  refine hb_met (by decide) (Nat.le_of_ble_eq_true rfl) ?_
  unfold f_X9_objects at h
  refine hs_aload_n dX9_objects_0 0 rfl ?_
  refine hs_iconst (v := (0 : Int32)) dX9_objects_1 (by decide) ?_
  obtain ⟨r1, h1, h⟩ := hb_bind h
  refine hs_putI dX9_objects_2 lpX9_objects_63 rfl h1 ?_
  refine hs_aload_n dX9_objects_5 0 rfl ?_
  obtain ⟨r2, h2, h⟩ := hb_bind h
  obtain ⟨h2, nf2, hb2⟩ := hb_on_at h2
  refine hs_callVi (μ' := mX9_many) (mc := 0) (ms := 0) (rc := 0) (rs := 0) (As := []) (rest := []) (ci := 9) dX9_objects_6 lmX9_112 okX9_many rfl (by decide) rfl (Nat.le_of_ble_eq_true rfl) rfl hb2 (c_X9_many h2) ?_
  obtain rfl := Option.some.inj h
  exact hs_ireturn dX9_objects_9 rfl (by rfl) (fun _ => rfl)
def mX9_exists : hb_Y := (yX9_exists, cX9_exists, 2, (some .boolean), [], false)
set_option maxHeartbeats 4000000 in
set_option maxRecDepth 20000 in
theorem c_X9_exists {G : hb_G} {l : Launch} {z : Bool} {x0 : Nat} {x1 : Int32} {σ : hb_M} {r : (Int32 × hb_M)} (h : f_X9_exists x0 x1 σ = some r) : hb_Call G l z 2 0 0 mX9_exists [.ref x0, .int x1] σ (.inl (some (.int r.1)), r.2) := by
  refine hb_met (by decide) (Nat.le_of_ble_eq_true rfl) ?_
  unfold f_X9_exists at h
  refine hs_aload_n dX9_exists_0 0 rfl ?_
  refine hs_iconst (v := (0 : Int32)) dX9_exists_1 (by decide) ?_
  obtain ⟨r1, h1, h⟩ := hb_bind h
  refine hs_putI dX9_exists_2 lpX9_exists_63 rfl h1 ?_
  refine hs_aload_n dX9_exists_5 0 rfl ?_
  refine hs_iload_n dX9_exists_6 1 rfl ?_
  obtain ⟨r2, h2, h⟩ := hb_bind h
  obtain ⟨h2, nf2, hb2⟩ := hb_on_at h2
  refine hs_callVi (μ' := mX9_isObject) (mc := 0) (ms := 0) (rc := 0) (rs := 0) (As := [.int x1]) (rest := []) (ci := 9) dX9_exists_7 lmX9_106 okX9_isObject rfl (by decide) rfl (Nat.le_of_ble_eq_true rfl) rfl hb2 (c_X9_isObject h2) ?_
  obtain ⟨rfl, hn⟩ := hb_zr_at h
  exact hs_ireturn dX9_exists_10 rfl hn (fun _ => rfl)
def mX9_referencesFrom : hb_Y := (yX9_referencesFrom, cX9_referencesFrom, 4, (some .int), [], false)
theorem okX9_referencesFrom : hb_okV mX9_referencesFrom 1 := ⟨⟨hb_w 11 (by decide +kernel) (by decide +kernel), hb_w 1586 (by decide +kernel) (by decide +kernel), ⟨by decide +kernel, by decide +kernel, by decide +kernel⟩, by decide⟩, hb_w 1585 (by decide +kernel) (by decide +kernel), hb_wp (q := (yX9_referencesFrom, 29)) 56 (by decide +kernel) (by decide +kernel)⟩
set_option maxHeartbeats 4000000 in
set_option maxRecDepth 20000 in
theorem c_X9_referencesFrom_b58 {G : hb_G} {l : Launch} {z : Bool}  (k4 : Nat → Int32 → Int32 → Int32 → hb_M → Option (Int32 × hb_M)) (hk4 : ∀ (x0 : Nat) (x1 : Int32) (x2 : Int32) (x3 : Int32) (σ : hb_M) (r : (Int32 × hb_M)), k4 x0 x1 x2 x3 σ = some r → hb_T G l z mX9_referencesFrom 1 0 0 4 [(0, .ref x0), (1, .int x1), (2, .int x2), (3, .int x3)] [] σ (.inl (some (.int r.1)), r.2))  {x0 : Nat} {x1 : Int32} {x3 : Int32} {s0 : Int32} {s1 : Int32} {σ : hb_M} {r : (Int32 × hb_M)} (h : f_X9_referencesFrom_b58 k4 x0 x1 x3 s0 s1 σ = some r) : hb_T G l z mX9_referencesFrom 1 0 0 58 [(0, .ref x0), (1, .int x1), (3, .int x3)] [.int s1, .int s0] σ (.inl (some (.int r.1)), r.2) := by
  unfold f_X9_referencesFrom_b58 at h
  refine hs_iadd dX9_referencesFrom_58 ?_
  refine hs_istore_n (lv' := [(2, .int (s0 + s1)), (0, .ref x0), (1, .int x1), (3, .int x3)]) dX9_referencesFrom_59 (by decide) rfl ?_
  refine hs_iinc2 (k := (1 : Int32)) (lv' := [(3, .int (x3 + (1 : Int32))), (2, .int (s0 + s1)), (0, .ref x0), (1, .int x1)]) dX9_referencesFrom_60 (by decide) 3 rfl (by decide) rfl ?_
  refine hs_goto (tgt := 4) dX9_referencesFrom_63 (by decide) ?_
  refine hs_sub (lv' := [(0, .ref x0), (1, .int x1), (2, .int (s0 + s1)), (3, .int (x3 + (1 : Int32)))]) [2, 3, 1, 0] rfl ?_
  exact hk4 _ _ _ _ _ _ h
set_option maxHeartbeats 4000000 in
set_option maxRecDepth 20000 in
theorem c_X9_referencesFrom_b4 {G : hb_G} {l : Launch} {z : Bool} : ∀ (n : Nat) (x0 : Nat) (x1 : Int32) (x2 : Int32) (x3 : Int32) (σ : hb_M) (r : (Int32 × hb_M)), f_X9_referencesFrom_b4 n x0 x1 x2 x3 σ = some r → hb_T G l z mX9_referencesFrom 1 0 0 4 [(0, .ref x0), (1, .int x1), (2, .int x2), (3, .int x3)] [] σ (.inl (some (.int r.1)), r.2) := by
  intro n
  induction n with
  | zero =>
    intro x0 x1 x2 x3 σ r h
    cases h
  | succ n ih =>
    intro x0 x1 x2 x3 σ r h
    rw [f_X9_referencesFrom_b4] at h
    refine hs_iload_n dX9_referencesFrom_4 3 rfl ?_
    refine hs_aload_n dX9_referencesFrom_5 0 rfl ?_
    obtain ⟨r1, h1, h⟩ := hb_bind h
    refine hs_getR dX9_referencesFrom_6 lkX9_7 rfl h1 ?_
    refine hs_iload_n dX9_referencesFrom_9 1 rfl ?_
    obtain ⟨r2, h2, h⟩ := hb_bind h
    refine hs_callSi (μ' := mX9_at) (mc := 0) (ms := 0) (rc := 0) (rs := 0) (As := [.int x1]) (rest := [.ref r1, .int x3]) dX9_referencesFrom_10 lmX9_103 okX9_at rfl (by decide) rfl (Nat.le_of_ble_eq_true rfl) (c_X9_at h2) ?_
    refine hs_iconst (v := (2 : Int32)) dX9_referencesFrom_13 (by decide) ?_
    refine hs_iadd dX9_referencesFrom_14 ?_
    obtain ⟨r3, h3, h⟩ := hb_bind h
    refine hs_iald dX9_referencesFrom_15 h3 ?_
    refine hs_icmp_ge (tgt := 66) dX9_referencesFrom_16 (by decide) (fun hc4 => ?_) (fun hc4 => ?_)
    · rw [if_pos hc4] at h
      refine hs_iload_n dX9_referencesFrom_66 2 rfl ?_
      obtain rfl := Option.some.inj h
      exact hs_ireturn dX9_referencesFrom_67 rfl (by rfl) (fun _ => rfl)
    · rw [if_neg hc4] at h
      refine hs_aload_n dX9_referencesFrom_19 0 rfl ?_
      obtain ⟨r5, h5, h⟩ := hb_bind h
      refine hs_getR dX9_referencesFrom_20 lkX9_7 rfl h5 ?_
      refine hs_iload_n dX9_referencesFrom_23 1 rfl ?_
      obtain ⟨r6, h6, h⟩ := hb_bind h
      refine hs_callSi (μ' := mX9_at) (mc := 0) (ms := 0) (rc := 0) (rs := 0) (As := [.int x1]) (rest := [.ref r5]) dX9_referencesFrom_24 lmX9_103 okX9_at rfl (by decide) rfl (Nat.le_of_ble_eq_true rfl) (c_X9_at h6) ?_
      refine hs_iconst (v := (1 : Int32)) dX9_referencesFrom_27 (by decide) ?_
      refine hs_iadd dX9_referencesFrom_28 ?_
      obtain ⟨r7, h7, h⟩ := hb_bind h
      refine hs_iald dX9_referencesFrom_29 h7 ?_
      refine hs_bipush (v := (11 : Int32)) dX9_referencesFrom_30 (by decide) ?_
      refine hs_icmp_eq (tgt := 66) dX9_referencesFrom_32 (by decide) (fun hc8 => ?_) (fun hc8 => ?_)
      · rw [if_pos hc8] at h
        refine hs_iload_n dX9_referencesFrom_66 2 rfl ?_
        obtain rfl := Option.some.inj h
        exact hs_ireturn dX9_referencesFrom_67 rfl (by rfl) (fun _ => rfl)
      · rw [if_neg hc8] at h
        refine hs_iload_n dX9_referencesFrom_35 2 rfl ?_
        refine hs_aload_n dX9_referencesFrom_36 0 rfl ?_
        obtain ⟨r9, h9, h⟩ := hb_bind h
        refine hs_getR dX9_referencesFrom_37 lkX9_7 rfl h9 ?_
        refine hs_iload_n dX9_referencesFrom_40 1 rfl ?_
        obtain ⟨r10, h10, h⟩ := hb_bind h
        refine hs_callSi (μ' := mX9_at) (mc := 0) (ms := 0) (rc := 0) (rs := 0) (As := [.int x1]) (rest := [.ref r9, .int x2]) dX9_referencesFrom_41 lmX9_103 okX9_at rfl (by decide) rfl (Nat.le_of_ble_eq_true rfl) (c_X9_at h10) ?_
        refine hs_iconst (v := (5 : Int32)) dX9_referencesFrom_44 (by decide) ?_
        refine hs_iadd dX9_referencesFrom_45 ?_
        refine hs_iload_n dX9_referencesFrom_46 3 rfl ?_
        refine hs_iadd dX9_referencesFrom_47 ?_
        obtain ⟨r11, h11, h⟩ := hb_bind h
        refine hs_iald dX9_referencesFrom_48 h11 ?_
        refine hs_iconst (v := (-1 : Int32)) dX9_referencesFrom_49 (by decide) ?_
        refine hs_icmp_eq (tgt := 57) dX9_referencesFrom_50 (by decide) (fun hc12 => ?_) (fun hc12 => ?_)
        · rw [if_pos hc12] at h
          refine hs_iconst (v := (0 : Int32)) dX9_referencesFrom_57 (by decide) ?_
          refine hs_sub (lv' := [(0, .ref x0), (1, .int x1), (3, .int x3)]) [0, 1, 3] rfl ?_
          exact c_X9_referencesFrom_b58 (f_X9_referencesFrom_b4 n) ih h
        · rw [if_neg hc12] at h
          refine hs_iconst (v := (1 : Int32)) dX9_referencesFrom_53 (by decide) ?_
          refine hs_goto (tgt := 58) dX9_referencesFrom_54 (by decide) ?_
          refine hs_sub (lv' := [(0, .ref x0), (1, .int x1), (3, .int x3)]) [0, 1, 3] rfl ?_
          exact c_X9_referencesFrom_b58 (f_X9_referencesFrom_b4 n) ih h
set_option maxHeartbeats 4000000 in
set_option maxRecDepth 20000 in
theorem c_X9_referencesFrom {G : hb_G} {l : Launch} {z : Bool} {x0 : Nat} {x1 : Int32} {σ : hb_M} {r : (Int32 × hb_M)} (h : f_X9_referencesFrom x0 x1 σ = some r) : hb_Call G l z 1 0 0 mX9_referencesFrom [.ref x0, .int x1] σ (.inl (some (.int r.1)), r.2) := by
  refine hb_met (by decide) (Nat.le_of_ble_eq_true rfl) ?_
  unfold f_X9_referencesFrom at h
  refine hs_iconst (v := (0 : Int32)) dX9_referencesFrom_0 (by decide) ?_
  refine hs_istore_n (lv' := [(2, .int (0 : Int32)), (0, .ref x0), (1, .int x1)]) dX9_referencesFrom_1 (by decide) rfl ?_
  refine hs_iconst (v := (0 : Int32)) dX9_referencesFrom_2 (by decide) ?_
  refine hs_istore_n (lv' := [(3, .int (0 : Int32)), (2, .int (0 : Int32)), (0, .ref x0), (1, .int x1)]) dX9_referencesFrom_3 (by decide) rfl ?_
  refine hs_sub (lv' := [(0, .ref x0), (1, .int x1), (2, .int (0 : Int32)), (3, .int (0 : Int32))]) [2, 3, 1, 0] rfl ?_
  exact c_X9_referencesFrom_b4 hb_FU _ _ _ _ _ _ h
def mX9_referencesTo : hb_Y := (yX9_referencesTo, cX9_referencesTo, 5, (some .int), [], false)
theorem okX9_referencesTo : hb_okV mX9_referencesTo 1 := ⟨⟨hb_w 11 (by decide +kernel) (by decide +kernel), hb_w 1590 (by decide +kernel) (by decide +kernel), ⟨by decide +kernel, by decide +kernel, by decide +kernel⟩, by decide⟩, hb_w 1589 (by decide +kernel) (by decide +kernel), hb_wp (q := (yX9_referencesTo, 29)) 57 (by decide +kernel) (by decide +kernel)⟩
set_option maxHeartbeats 4000000 in
set_option maxRecDepth 20000 in
theorem c_X9_referencesTo_b85 {G : hb_G} {l : Launch} {z : Bool}  (k4 : Nat → Int32 → Int32 → Int32 → hb_M → Option (Int32 × hb_M)) (hk4 : ∀ (x0 : Nat) (x1 : Int32) (x2 : Int32) (x3 : Int32) (σ : hb_M) (r : (Int32 × hb_M)), k4 x0 x1 x2 x3 σ = some r → hb_T G l z mX9_referencesTo 2 0 0 4 [(0, .ref x0), (1, .int x1), (2, .int x2), (3, .int x3)] [] σ (.inl (some (.int r.1)), r.2))  {x0 : Nat} {x1 : Int32} {x2 : Int32} {x3 : Int32} {σ : hb_M} {r : (Int32 × hb_M)} (h : f_X9_referencesTo_b85 k4 x0 x1 x2 x3 σ = some r) : hb_T G l z mX9_referencesTo 2 0 0 85 [(0, .ref x0), (1, .int x1), (2, .int x2), (3, .int x3)] [] σ (.inl (some (.int r.1)), r.2) := by
  unfold f_X9_referencesTo_b85 at h
  refine hs_iinc2 (k := (1 : Int32)) (lv' := [(3, .int (x3 + (1 : Int32))), (0, .ref x0), (1, .int x1), (2, .int x2)]) dX9_referencesTo_85 (by decide) 3 rfl (by decide) rfl ?_
  refine hs_goto (tgt := 4) dX9_referencesTo_88 (by decide) ?_
  refine hs_sub (lv' := [(0, .ref x0), (1, .int x1), (2, .int x2), (3, .int (x3 + (1 : Int32)))]) [1, 2, 3, 0] rfl ?_
  exact hk4 _ _ _ _ _ _ h
set_option maxHeartbeats 4000000 in
set_option maxRecDepth 20000 in
theorem c_X9_referencesTo_b77 {G : hb_G} {l : Launch} {z : Bool}  (k4 : Nat → Int32 → Int32 → Int32 → hb_M → Option (Int32 × hb_M)) (hk4 : ∀ (x0 : Nat) (x1 : Int32) (x2 : Int32) (x3 : Int32) (σ : hb_M) (r : (Int32 × hb_M)), k4 x0 x1 x2 x3 σ = some r → hb_T G l z mX9_referencesTo 2 0 0 4 [(0, .ref x0), (1, .int x1), (2, .int x2), (3, .int x3)] [] σ (.inl (some (.int r.1)), r.2)) (k37 : Nat → Int32 → Int32 → Int32 → Int32 → hb_M → Option (Int32 × hb_M)) (hk37 : ∀ (x0 : Nat) (x1 : Int32) (x2 : Int32) (x3 : Int32) (x4 : Int32) (σ : hb_M) (r : (Int32 × hb_M)), k37 x0 x1 x2 x3 x4 σ = some r → hb_T G l z mX9_referencesTo 2 0 0 37 [(0, .ref x0), (1, .int x1), (2, .int x2), (3, .int x3), (4, .int x4)] [] σ (.inl (some (.int r.1)), r.2))  {x0 : Nat} {x1 : Int32} {x3 : Int32} {x4 : Int32} {s0 : Int32} {s1 : Int32} {σ : hb_M} {r : (Int32 × hb_M)} (h : f_X9_referencesTo_b77 k4 k37 x0 x1 x3 x4 s0 s1 σ = some r) : hb_T G l z mX9_referencesTo 2 0 0 77 [(0, .ref x0), (1, .int x1), (3, .int x3), (4, .int x4)] [.int s1, .int s0] σ (.inl (some (.int r.1)), r.2) := by
  unfold f_X9_referencesTo_b77 at h
  refine hs_iadd dX9_referencesTo_77 ?_
  refine hs_istore_n (lv' := [(2, .int (s0 + s1)), (0, .ref x0), (1, .int x1), (3, .int x3), (4, .int x4)]) dX9_referencesTo_78 (by decide) rfl ?_
  refine hs_iinc2 (k := (1 : Int32)) (lv' := [(4, .int (x4 + (1 : Int32))), (2, .int (s0 + s1)), (0, .ref x0), (1, .int x1), (3, .int x3)]) dX9_referencesTo_79 (by decide) 4 rfl (by decide) rfl ?_
  refine hs_goto (tgt := 37) dX9_referencesTo_82 (by decide) ?_
  refine hs_sub (lv' := [(0, .ref x0), (1, .int x1), (2, .int (s0 + s1)), (3, .int x3), (4, .int (x4 + (1 : Int32)))]) [2, 3, 1, 4, 0] rfl ?_
  exact hk37 _ _ _ _ _ _ _ h
set_option maxHeartbeats 4000000 in
set_option maxRecDepth 20000 in
theorem c_X9_referencesTo_b37 {G : hb_G} {l : Launch} {z : Bool}  (k4 : Nat → Int32 → Int32 → Int32 → hb_M → Option (Int32 × hb_M)) (hk4 : ∀ (x0 : Nat) (x1 : Int32) (x2 : Int32) (x3 : Int32) (σ : hb_M) (r : (Int32 × hb_M)), k4 x0 x1 x2 x3 σ = some r → hb_T G l z mX9_referencesTo 2 0 0 4 [(0, .ref x0), (1, .int x1), (2, .int x2), (3, .int x3)] [] σ (.inl (some (.int r.1)), r.2)) : ∀ (n : Nat) (x0 : Nat) (x1 : Int32) (x2 : Int32) (x3 : Int32) (x4 : Int32) (σ : hb_M) (r : (Int32 × hb_M)), f_X9_referencesTo_b37 k4 n x0 x1 x2 x3 x4 σ = some r → hb_T G l z mX9_referencesTo 2 0 0 37 [(0, .ref x0), (1, .int x1), (2, .int x2), (3, .int x3), (4, .int x4)] [] σ (.inl (some (.int r.1)), r.2) := by
  intro n
  induction n with
  | zero =>
    intro x0 x1 x2 x3 x4 σ r h
    cases h
  | succ n ih =>
    intro x0 x1 x2 x3 x4 σ r h
    rw [f_X9_referencesTo_b37] at h
    refine hs_iload dX9_referencesTo_37 4 rfl ?_
    refine hs_aload_n dX9_referencesTo_39 0 rfl ?_
    obtain ⟨r1, h1, h⟩ := hb_bind h
    refine hs_getR dX9_referencesTo_40 lkX9_7 rfl h1 ?_
    refine hs_iload_n dX9_referencesTo_43 3 rfl ?_
    obtain ⟨r2, h2, h⟩ := hb_bind h
    refine hs_callSi (μ' := mX9_at) (mc := 0) (ms := 0) (rc := 0) (rs := 0) (As := [.int x3]) (rest := [.ref r1, .int x4]) dX9_referencesTo_44 lmX9_103 okX9_at rfl (by decide) rfl (Nat.le_of_ble_eq_true rfl) (c_X9_at h2) ?_
    refine hs_iconst (v := (2 : Int32)) dX9_referencesTo_47 (by decide) ?_
    refine hs_iadd dX9_referencesTo_48 ?_
    obtain ⟨r3, h3, h⟩ := hb_bind h
    refine hs_iald dX9_referencesTo_49 h3 ?_
    refine hs_icmp_ge (tgt := 85) dX9_referencesTo_50 (by decide) (fun hc4 => ?_) (fun hc4 => ?_)
    · rw [if_pos hc4] at h
      refine hs_sub (lv' := [(0, .ref x0), (1, .int x1), (2, .int x2), (3, .int x3)]) [0, 1, 2, 3] rfl ?_
      exact c_X9_referencesTo_b85 k4 hk4 h
    · rw [if_neg hc4] at h
      refine hs_iload_n dX9_referencesTo_53 2 rfl ?_
      refine hs_aload_n dX9_referencesTo_54 0 rfl ?_
      obtain ⟨r5, h5, h⟩ := hb_bind h
      refine hs_getR dX9_referencesTo_55 lkX9_7 rfl h5 ?_
      refine hs_iload_n dX9_referencesTo_58 3 rfl ?_
      obtain ⟨r6, h6, h⟩ := hb_bind h
      refine hs_callSi (μ' := mX9_at) (mc := 0) (ms := 0) (rc := 0) (rs := 0) (As := [.int x3]) (rest := [.ref r5, .int x2]) dX9_referencesTo_59 lmX9_103 okX9_at rfl (by decide) rfl (Nat.le_of_ble_eq_true rfl) (c_X9_at h6) ?_
      refine hs_iconst (v := (5 : Int32)) dX9_referencesTo_62 (by decide) ?_
      refine hs_iadd dX9_referencesTo_63 ?_
      refine hs_iload dX9_referencesTo_64 4 rfl ?_
      refine hs_iadd dX9_referencesTo_66 ?_
      obtain ⟨r7, h7, h⟩ := hb_bind h
      refine hs_iald dX9_referencesTo_67 h7 ?_
      refine hs_iload_n dX9_referencesTo_68 1 rfl ?_
      refine hs_icmp_ne (tgt := 76) dX9_referencesTo_69 (by decide) (fun hc8 => ?_) (fun hc8 => ?_)
      · rw [if_neg hc8] at h
        refine hs_iconst (v := (0 : Int32)) dX9_referencesTo_76 (by decide) ?_
        refine hs_sub (lv' := [(0, .ref x0), (1, .int x1), (3, .int x3), (4, .int x4)]) [0, 1, 3, 4] rfl ?_
        exact c_X9_referencesTo_b77 k4 hk4 (f_X9_referencesTo_b37 k4 n) ih h
      · rw [if_pos hc8] at h
        refine hs_iconst (v := (1 : Int32)) dX9_referencesTo_72 (by decide) ?_
        refine hs_goto (tgt := 77) dX9_referencesTo_73 (by decide) ?_
        refine hs_sub (lv' := [(0, .ref x0), (1, .int x1), (3, .int x3), (4, .int x4)]) [0, 1, 3, 4] rfl ?_
        exact c_X9_referencesTo_b77 k4 hk4 (f_X9_referencesTo_b37 k4 n) ih h
set_option maxHeartbeats 4000000 in
set_option maxRecDepth 20000 in
theorem c_X9_referencesTo_b4 {G : hb_G} {l : Launch} {z : Bool} : ∀ (n : Nat) (x0 : Nat) (x1 : Int32) (x2 : Int32) (x3 : Int32) (σ : hb_M) (r : (Int32 × hb_M)), f_X9_referencesTo_b4 n x0 x1 x2 x3 σ = some r → hb_T G l z mX9_referencesTo 2 0 0 4 [(0, .ref x0), (1, .int x1), (2, .int x2), (3, .int x3)] [] σ (.inl (some (.int r.1)), r.2) := by
  intro n
  induction n with
  | zero =>
    intro x0 x1 x2 x3 σ r h
    cases h
  | succ n ih =>
    intro x0 x1 x2 x3 σ r h
    rw [f_X9_referencesTo_b4] at h
    refine hs_iload_n dX9_referencesTo_4 3 rfl ?_
    refine hs_bipush (v := (40 : Int32)) dX9_referencesTo_5 (by decide) ?_
    refine hs_icmp_ge (tgt := 91) dX9_referencesTo_7 (by decide) (fun hc1 => ?_) (fun hc1 => ?_)
    · rw [if_pos hc1] at h
      refine hs_iload_n dX9_referencesTo_91 2 rfl ?_
      obtain rfl := Option.some.inj h
      exact hs_ireturn dX9_referencesTo_92 rfl (by rfl) (fun _ => rfl)
    · rw [if_neg hc1] at h
      refine hs_aload_n dX9_referencesTo_10 0 rfl ?_
      refine hs_iload_n dX9_referencesTo_11 3 rfl ?_
      obtain ⟨r2, h2, h⟩ := hb_bind h
      obtain ⟨h2, nf2, hb2⟩ := hb_on_at h2
      refine hs_callVi (μ' := mX9_isObject) (mc := 0) (ms := 0) (rc := 0) (rs := 0) (As := [.int x3]) (rest := []) (ci := 9) dX9_referencesTo_12 lmX9_106 okX9_isObject rfl (by decide) rfl (Nat.le_of_ble_eq_true rfl) rfl hb2 (c_X9_isObject h2) ?_
      refine hs_if_eq (tgt := 85) dX9_referencesTo_15 (by decide) (fun hc3 => ?_) (fun hc3 => ?_)
      · rw [if_pos hc3] at h
        refine hs_sub (lv' := [(0, .ref x0), (1, .int x1), (2, .int x2), (3, .int x3)]) [0, 1, 2, 3] rfl ?_
        exact c_X9_referencesTo_b85 (f_X9_referencesTo_b4 n) ih h
      · rw [if_neg hc3] at h
        refine hs_aload_n dX9_referencesTo_18 0 rfl ?_
        obtain ⟨r4, h4, h⟩ := hb_bind h
        refine hs_getR dX9_referencesTo_19 lkX9_7 rfl h4 ?_
        refine hs_iload_n dX9_referencesTo_22 3 rfl ?_
        obtain ⟨r5, h5, h⟩ := hb_bind h
        refine hs_callSi (μ' := mX9_at) (mc := 0) (ms := 0) (rc := 0) (rs := 0) (As := [.int x3]) (rest := [.ref r4]) dX9_referencesTo_23 lmX9_103 okX9_at rfl (by decide) rfl (Nat.le_of_ble_eq_true rfl) (c_X9_at h5) ?_
        refine hs_iconst (v := (1 : Int32)) dX9_referencesTo_26 (by decide) ?_
        refine hs_iadd dX9_referencesTo_27 ?_
        obtain ⟨r6, h6, h⟩ := hb_bind h
        refine hs_iald dX9_referencesTo_28 h6 ?_
        refine hs_bipush (v := (11 : Int32)) dX9_referencesTo_29 (by decide) ?_
        refine hs_icmp_eq (tgt := 85) dX9_referencesTo_31 (by decide) (fun hc7 => ?_) (fun hc7 => ?_)
        · rw [if_pos hc7] at h
          refine hs_sub (lv' := [(0, .ref x0), (1, .int x1), (2, .int x2), (3, .int x3)]) [0, 1, 2, 3] rfl ?_
          exact c_X9_referencesTo_b85 (f_X9_referencesTo_b4 n) ih h
        · rw [if_neg hc7] at h
          refine hs_iconst (v := (0 : Int32)) dX9_referencesTo_34 (by decide) ?_
          refine hs_istore (lv' := [(4, .int (0 : Int32)), (0, .ref x0), (1, .int x1), (2, .int x2), (3, .int x3)]) dX9_referencesTo_35 (by decide) rfl ?_
          refine hs_sub (lv' := [(0, .ref x0), (1, .int x1), (2, .int x2), (3, .int x3), (4, .int (0 : Int32))]) [1, 2, 3, 4, 0] rfl ?_
          exact c_X9_referencesTo_b37 (f_X9_referencesTo_b4 n) ih hb_FU _ _ _ _ _ _ _ h
set_option maxHeartbeats 4000000 in
set_option maxRecDepth 20000 in
theorem c_X9_referencesTo {G : hb_G} {l : Launch} {z : Bool} {x0 : Nat} {x1 : Int32} {σ : hb_M} {r : (Int32 × hb_M)} (h : f_X9_referencesTo x0 x1 σ = some r) : hb_Call G l z 2 0 0 mX9_referencesTo [.ref x0, .int x1] σ (.inl (some (.int r.1)), r.2) := by
  refine hb_met (by decide) (Nat.le_of_ble_eq_true rfl) ?_
  unfold f_X9_referencesTo at h
  refine hs_iconst (v := (0 : Int32)) dX9_referencesTo_0 (by decide) ?_
  refine hs_istore_n (lv' := [(2, .int (0 : Int32)), (0, .ref x0), (1, .int x1)]) dX9_referencesTo_1 (by decide) rfl ?_
  refine hs_iconst (v := (0 : Int32)) dX9_referencesTo_2 (by decide) ?_
  refine hs_istore_n (lv' := [(3, .int (0 : Int32)), (2, .int (0 : Int32)), (0, .ref x0), (1, .int x1)]) dX9_referencesTo_3 (by decide) rfl ?_
  refine hs_sub (lv' := [(0, .ref x0), (1, .int x1), (2, .int (0 : Int32)), (3, .int (0 : Int32))]) [2, 3, 1, 0] rfl ?_
  exact c_X9_referencesTo_b4 hb_FU _ _ _ _ _ _ h
def mX9_objectBy : hb_Y := (yX9_objectBy, cX9_objectBy, 3, (some .int), [], false)
theorem okX9_objectBy : hb_okV mX9_objectBy 2 := ⟨⟨hb_w 11 (by decide +kernel) (by decide +kernel), hb_w 1582 (by decide +kernel) (by decide +kernel), ⟨by decide +kernel, by decide +kernel, by decide +kernel⟩, by decide⟩, hb_w 1581 (by decide +kernel) (by decide +kernel), hb_wp (q := (yX9_objectBy, 29)) 55 (by decide +kernel) (by decide +kernel)⟩
set_option maxHeartbeats 4000000 in
set_option maxRecDepth 20000 in
theorem c_X9_objectBy {G : hb_G} {l : Launch} {z : Bool} {x0 : Nat} {x1 : Int32} {x2 : Int32} {σ : hb_M} {r : (Int32 × hb_M)} (h : f_X9_objectBy x0 x1 x2 σ = some r) : hb_Call G l z 3 0 0 mX9_objectBy [.ref x0, .int x1, .int x2] σ (.inl (some (.int r.1)), r.2) := by
  refine hb_met (by decide) (Nat.le_of_ble_eq_true rfl) ?_
  unfold f_X9_objectBy at h
  refine hs_iload_n dX9_objectBy_0 2 rfl ?_
  by_cases hc1 : x2 = (0 : Int32)
  · rw [if_pos hc1] at h
    refine hs_tblC (tgt := 44) (off := 43) (0 : Int32) dX9_objectBy_1 hc1 (by decide) (by decide) (by decide) (by decide) ?_
    refine hs_aload_n dX9_objectBy_44 0 rfl ?_
    obtain ⟨r2, h2, h⟩ := hb_bind h
    refine hs_getR dX9_objectBy_45 lkX9_7 rfl h2 ?_
    refine hs_iload_n dX9_objectBy_48 1 rfl ?_
    obtain ⟨r3, h3, h⟩ := hb_bind h
    refine hs_callSi (μ' := mX9_at) (mc := 0) (ms := 0) (rc := 0) (rs := 0) (As := [.int x1]) (rest := [.ref r2]) dX9_objectBy_49 lmX9_103 okX9_at rfl (by decide) rfl (Nat.le_of_ble_eq_true rfl) (c_X9_at h3) ?_
    refine hs_iconst (v := (1 : Int32)) dX9_objectBy_52 (by decide) ?_
    refine hs_iadd dX9_objectBy_53 ?_
    obtain ⟨r4, h4, h⟩ := hb_bind h
    refine hs_iald dX9_objectBy_54 h4 ?_
    obtain rfl := Option.some.inj h
    exact hs_ireturn dX9_objectBy_55 rfl (by rfl) (fun _ => rfl)
  rw [if_neg hc1] at h
  by_cases hc5 : x2 = (1 : Int32)
  · rw [if_pos hc5] at h
    refine hs_tblC (tgt := 56) (off := 55) (1 : Int32) dX9_objectBy_1 hc5 (by decide) (by decide) (by decide) (by decide) ?_
    refine hs_aload_n dX9_objectBy_56 0 rfl ?_
    obtain ⟨r6, h6, h⟩ := hb_bind h
    refine hs_getR dX9_objectBy_57 lkX9_7 rfl h6 ?_
    refine hs_iload_n dX9_objectBy_60 1 rfl ?_
    obtain ⟨r7, h7, h⟩ := hb_bind h
    refine hs_callSi (μ' := mX9_at) (mc := 0) (ms := 0) (rc := 0) (rs := 0) (As := [.int x1]) (rest := [.ref r6]) dX9_objectBy_61 lmX9_103 okX9_at rfl (by decide) rfl (Nat.le_of_ble_eq_true rfl) (c_X9_at h7) ?_
    refine hs_iconst (v := (0 : Int32)) dX9_objectBy_64 (by decide) ?_
    refine hs_iadd dX9_objectBy_65 ?_
    obtain ⟨r8, h8, h⟩ := hb_bind h
    refine hs_iald dX9_objectBy_66 h8 ?_
    obtain rfl := Option.some.inj h
    exact hs_ireturn dX9_objectBy_67 rfl (by rfl) (fun _ => rfl)
  rw [if_neg hc5] at h
  by_cases hc9 : x2 = (2 : Int32)
  · rw [if_pos hc9] at h
    refine hs_tblC (tgt := 68) (off := 67) (2 : Int32) dX9_objectBy_1 hc9 (by decide) (by decide) (by decide) (by decide) ?_
    refine hs_aload_n dX9_objectBy_68 0 rfl ?_
    refine hs_iload_n dX9_objectBy_69 1 rfl ?_
    obtain ⟨r10, h10, h⟩ := hb_bind h
    obtain ⟨h10, nf10, hb10⟩ := hb_on_at h10
    refine hs_callVi (μ' := mX9_sizeOf) (mc := 0) (ms := 0) (rc := 0) (rs := 0) (As := [.int x1]) (rest := []) (ci := 9) dX9_objectBy_70 lmX9_109 okX9_sizeOf rfl (by decide) rfl (Nat.le_of_ble_eq_true rfl) rfl hb10 (c_X9_sizeOf h10) ?_
    obtain rfl := Option.some.inj h
    exact hs_ireturn dX9_objectBy_73 rfl (by rfl) (fun _ => rfl)
  rw [if_neg hc9] at h
  by_cases hc11 : x2 = (3 : Int32)
  · rw [if_pos hc11] at h
    refine hs_tblC (tgt := 74) (off := 73) (3 : Int32) dX9_objectBy_1 hc11 (by decide) (by decide) (by decide) (by decide) ?_
    refine hs_aload_n dX9_objectBy_74 0 rfl ?_
    obtain ⟨r12, h12, h⟩ := hb_bind h
    refine hs_getR dX9_objectBy_75 lkX9_7 rfl h12 ?_
    refine hs_iload_n dX9_objectBy_78 1 rfl ?_
    obtain ⟨r13, h13, h⟩ := hb_bind h
    refine hs_callSi (μ' := mX9_at) (mc := 0) (ms := 0) (rc := 0) (rs := 0) (As := [.int x1]) (rest := [.ref r12]) dX9_objectBy_79 lmX9_103 okX9_at rfl (by decide) rfl (Nat.le_of_ble_eq_true rfl) (c_X9_at h13) ?_
    refine hs_iconst (v := (3 : Int32)) dX9_objectBy_82 (by decide) ?_
    refine hs_iadd dX9_objectBy_83 ?_
    obtain ⟨r14, h14, h⟩ := hb_bind h
    refine hs_iald dX9_objectBy_84 h14 ?_
    obtain rfl := Option.some.inj h
    exact hs_ireturn dX9_objectBy_85 rfl (by rfl) (fun _ => rfl)
  rw [if_neg hc11] at h
  by_cases hc15 : x2 = (4 : Int32)
  · rw [if_pos hc15] at h
    refine hs_tblC (tgt := 86) (off := 85) (4 : Int32) dX9_objectBy_1 hc15 (by decide) (by decide) (by decide) (by decide) ?_
    refine hs_aload_n dX9_objectBy_86 0 rfl ?_
    obtain ⟨r16, h16, h⟩ := hb_bind h
    refine hs_getR dX9_objectBy_87 lkX9_7 rfl h16 ?_
    refine hs_iload_n dX9_objectBy_90 1 rfl ?_
    obtain ⟨r17, h17, h⟩ := hb_bind h
    refine hs_callSi (μ' := mX9_at) (mc := 0) (ms := 0) (rc := 0) (rs := 0) (As := [.int x1]) (rest := [.ref r16]) dX9_objectBy_91 lmX9_103 okX9_at rfl (by decide) rfl (Nat.le_of_ble_eq_true rfl) (c_X9_at h17) ?_
    refine hs_iconst (v := (2 : Int32)) dX9_objectBy_94 (by decide) ?_
    refine hs_iadd dX9_objectBy_95 ?_
    obtain ⟨r18, h18, h⟩ := hb_bind h
    refine hs_iald dX9_objectBy_96 h18 ?_
    obtain rfl := Option.some.inj h
    exact hs_ireturn dX9_objectBy_97 rfl (by rfl) (fun _ => rfl)
  rw [if_neg hc15] at h
  by_cases hc19 : x2 = (5 : Int32)
  · rw [if_pos hc19] at h
    refine hs_tblC (tgt := 98) (off := 97) (5 : Int32) dX9_objectBy_1 hc19 (by decide) (by decide) (by decide) (by decide) ?_
    refine hs_aload_n dX9_objectBy_98 0 rfl ?_
    obtain ⟨r20, h20, h⟩ := hb_bind h
    refine hs_getR dX9_objectBy_99 lkX9_7 rfl h20 ?_
    refine hs_iload_n dX9_objectBy_102 1 rfl ?_
    obtain ⟨r21, h21, h⟩ := hb_bind h
    refine hs_callSi (μ' := mX9_at) (mc := 0) (ms := 0) (rc := 0) (rs := 0) (As := [.int x1]) (rest := [.ref r20]) dX9_objectBy_103 lmX9_103 okX9_at rfl (by decide) rfl (Nat.le_of_ble_eq_true rfl) (c_X9_at h21) ?_
    refine hs_iconst (v := (4 : Int32)) dX9_objectBy_106 (by decide) ?_
    refine hs_iadd dX9_objectBy_107 ?_
    obtain ⟨r22, h22, h⟩ := hb_bind h
    refine hs_iald dX9_objectBy_108 h22 ?_
    obtain rfl := Option.some.inj h
    exact hs_ireturn dX9_objectBy_109 rfl (by rfl) (fun _ => rfl)
  rw [if_neg hc19] at h
  by_cases hc23 : x2 = (6 : Int32)
  · rw [if_pos hc23] at h
    refine hs_tblC (tgt := 110) (off := 109) (6 : Int32) dX9_objectBy_1 hc23 (by decide) (by decide) (by decide) (by decide) ?_
    refine hs_aload_n dX9_objectBy_110 0 rfl ?_
    refine hs_iload_n dX9_objectBy_111 1 rfl ?_
    obtain ⟨r24, h24, h⟩ := hb_bind h
    obtain ⟨h24, nf24, hb24⟩ := hb_on_at h24
    refine hs_callVi (μ' := mX9_referencesFrom) (mc := 0) (ms := 0) (rc := 0) (rs := 0) (As := [.int x1]) (rest := []) (ci := 9) dX9_objectBy_112 lmX9_145 okX9_referencesFrom rfl (by decide) rfl (Nat.le_of_ble_eq_true rfl) rfl hb24 (c_X9_referencesFrom h24) ?_
    obtain rfl := Option.some.inj h
    exact hs_ireturn dX9_objectBy_115 rfl (by rfl) (fun _ => rfl)
  rw [if_neg hc23] at h
  refine hs_tblD (tgt := 116) [(0 : Int32), (1 : Int32), (2 : Int32), (3 : Int32), (4 : Int32), (5 : Int32), (6 : Int32)] dX9_objectBy_1 (by simp only [List.mem_cons, List.not_mem_nil, or_false, forall_eq_or_imp, forall_eq]; exact ⟨hc1, hc5, hc9, hc11, hc15, hc19, hc23⟩) (by decide) (by decide) (by decide) ?_
  refine hs_aload_n dX9_objectBy_116 0 rfl ?_
  refine hs_iload_n dX9_objectBy_117 1 rfl ?_
  obtain ⟨r25, h25, h⟩ := hb_bind h
  obtain ⟨h25, nf25, hb25⟩ := hb_on_at h25
  refine hs_callVi (μ' := mX9_referencesTo) (mc := 0) (ms := 0) (rc := 0) (rs := 0) (As := [.int x1]) (rest := []) (ci := 9) dX9_objectBy_118 lmX9_148 okX9_referencesTo rfl (by decide) rfl (Nat.le_of_ble_eq_true rfl) rfl hb25 (c_X9_referencesTo h25) ?_
  obtain rfl := Option.some.inj h
  exact hs_ireturn dX9_objectBy_121 rfl (by rfl) (fun _ => rfl)
def mX9_objectInfo : hb_Y := (yX9_objectInfo, cX9_objectInfo, 3, (some .int), [], false)
set_option maxHeartbeats 4000000 in
set_option maxRecDepth 20000 in
theorem c_X9_objectInfo_b28 {G : hb_G} {l : Launch} {z : Bool}  {x0 : Nat} {x1 : Int32} {x2 : Int32} {s0 : Nat} {s1 : Int32} {σ : hb_M} {r : (Int32 × hb_M)} (h : f_X9_objectInfo_b28 x0 x1 x2 s0 s1 σ = some r) : hb_T G l z mX9_objectInfo 4 0 0 28 [(0, .ref x0), (1, .int x1), (2, .int x2)] [.int s1, .ref s0] σ (.inl (some (.int r.1)), r.2) := by
  unfold f_X9_objectInfo_b28 at h
  obtain ⟨r1, h1, h⟩ := hb_bind h
  obtain ⟨h1, nf1, hb1⟩ := hb_on_at h1
  refine hs_callVi (μ' := mX9_refused) (mc := 0) (ms := 0) (rc := 0) (rs := 0) (As := [.int s1]) (rest := []) (ci := 9) dX9_objectInfo_28 lmX9_74 okX9_refused rfl (by decide) rfl (Nat.le_of_ble_eq_true rfl) rfl hb1 (c_X9_refused h1) ?_
  refine hs_if_eq (tgt := 38) dX9_objectInfo_31 (by decide) (fun hc2 => ?_) (fun hc2 => ?_)
  · rw [if_pos hc2] at h
    refine hs_aload_n dX9_objectInfo_38 0 rfl ?_
    refine hs_iload_n dX9_objectInfo_39 1 rfl ?_
    refine hs_iload_n dX9_objectInfo_40 2 rfl ?_
    obtain ⟨r3, h3, h⟩ := hb_bind h
    obtain ⟨h3, nf3, hb3⟩ := hb_on_at h3
    refine hs_callVi (μ' := mX9_objectBy) (mc := 0) (ms := 0) (rc := 0) (rs := 0) (As := [.int x1, .int x2]) (rest := []) (ci := 9) dX9_objectInfo_41 lmX9_151 okX9_objectBy rfl (by decide) rfl (Nat.le_of_ble_eq_true rfl) rfl hb3 (c_X9_objectBy h3) ?_
    obtain rfl := Option.some.inj h
    exact hs_ireturn dX9_objectInfo_44 rfl (by rfl) (fun _ => rfl)
  · rw [if_neg hc2] at h
    refine hs_iconst (v := (0 : Int32)) dX9_objectInfo_34 (by decide) ?_
    refine hs_goto (tgt := 44) dX9_objectInfo_35 (by decide) ?_
    obtain rfl := Option.some.inj h
    exact hs_ireturn dX9_objectInfo_44 rfl (by rfl) (fun _ => rfl)
set_option maxHeartbeats 4000000 in
set_option maxRecDepth 20000 in
theorem c_X9_objectInfo {G : hb_G} {l : Launch} {z : Bool} {x0 : Nat} {x1 : Int32} {x2 : Int32} {σ : hb_M} {r : (Int32 × hb_M)} (h : f_X9_objectInfo x0 x1 x2 σ = some r) : hb_Call G l z 4 0 0 mX9_objectInfo [.ref x0, .int x1, .int x2] σ (.inl (some (.int r.1)), r.2) := by
  refine hb_met (by decide) (Nat.le_of_ble_eq_true rfl) ?_
  unfold f_X9_objectInfo at h
  refine hs_aload_n dX9_objectInfo_0 0 rfl ?_
  refine hs_aload_n dX9_objectInfo_1 0 rfl ?_
  refine hs_iload_n dX9_objectInfo_2 1 rfl ?_
  obtain ⟨r1, h1, h⟩ := hb_bind h
  obtain ⟨h1, nf1, hb1⟩ := hb_on_at h1
  refine hs_callVi (μ' := mX9_isObject) (mc := 0) (ms := 0) (rc := 0) (rs := 0) (As := [.int x1]) (rest := [.ref x0]) (ci := 9) dX9_objectInfo_3 lmX9_106 okX9_isObject rfl (by decide) rfl (Nat.le_of_ble_eq_true rfl) rfl hb1 (c_X9_isObject h1) ?_
  refine hs_if_ne (tgt := 13) dX9_objectInfo_6 (by decide) (fun hc2 => ?_) (fun hc2 => ?_)
  · rw [if_neg hc2] at h
    refine hs_iload_n dX9_objectInfo_13 2 rfl ?_
    refine hs_iconst (v := (0 : Int32)) dX9_objectInfo_14 (by decide) ?_
    refine hs_bipush (v := (7 : Int32)) dX9_objectInfo_15 (by decide) ?_
    obtain ⟨r3, h3, h⟩ := hb_bind h
    refine hs_callSi (μ' := mX9_within) (mc := 0) (ms := 0) (rc := 0) (rs := 0) (As := [.int x2, .int (0 : Int32), .int (7 : Int32)]) (rest := [.ref x0]) dX9_objectInfo_17 lmX9_78 okX9_within rfl (by decide) rfl (Nat.le_of_ble_eq_true rfl) (c_X9_within h3) ?_
    refine hs_if_ne (tgt := 27) dX9_objectInfo_20 (by decide) (fun hc4 => ?_) (fun hc4 => ?_)
    · rw [if_neg hc4] at h
      refine hs_iconst (v := (0 : Int32)) dX9_objectInfo_27 (by decide) ?_
      refine hs_sub (lv' := [(0, .ref x0), (1, .int x1), (2, .int x2)]) [0, 1, 2] rfl ?_
      exact c_X9_objectInfo_b28 h
    · rw [if_pos hc4] at h
      refine hs_iconst (v := (2 : Int32)) dX9_objectInfo_23 (by decide) ?_
      refine hs_goto (tgt := 28) dX9_objectInfo_24 (by decide) ?_
      refine hs_sub (lv' := [(0, .ref x0), (1, .int x1), (2, .int x2)]) [0, 1, 2] rfl ?_
      exact c_X9_objectInfo_b28 h
  · rw [if_pos hc2] at h
    refine hs_iconst (v := (1 : Int32)) dX9_objectInfo_9 (by decide) ?_
    refine hs_goto (tgt := 28) dX9_objectInfo_10 (by decide) ?_
    refine hs_sub (lv' := [(0, .ref x0), (1, .int x1), (2, .int x2)]) [0, 1, 2] rfl ?_
    exact c_X9_objectInfo_b28 h
def mX9_draw : hb_Y := (yX9_draw, cX9_draw, 2, (some .int), [], false)
theorem okX9_draw : hb_okV mX9_draw 1 := ⟨⟨hb_w 11 (by decide +kernel) (by decide +kernel), hb_w 1598 (by decide +kernel) (by decide +kernel), ⟨by decide +kernel, by decide +kernel, by decide +kernel⟩, by decide⟩, hb_w 1597 (by decide +kernel) (by decide +kernel), hb_wp (q := (yX9_draw, 29)) 58 (by decide +kernel) (by decide +kernel)⟩
set_option maxHeartbeats 4000000 in
set_option maxRecDepth 20000 in
theorem c_X9_draw {G : hb_G} {l : Launch} {z : Bool} {x0 : Nat} {x1 : Int32} {σ : hb_M} {r : (Int32 × hb_M)} (h : f_X9_draw x0 x1 σ = some r) : hb_Call G l z 0 0 0 mX9_draw [.ref x0, .int x1] σ (.inl (some (.int r.1)), r.2) := by
  refine hb_met (by decide) (Nat.le_of_ble_eq_true rfl) ?_
  unfold f_X9_draw at h
  refine hs_aload_n dX9_draw_0 0 rfl ?_
  refine hs_aload_n dX9_draw_1 0 rfl ?_
  obtain ⟨r1, h1, h⟩ := hb_bind h
  refine hs_getL dX9_draw_2 lkX9_154 rfl h1 ?_
  refine hs_ldc2 (v := (1103515245 : Int64)) dX9_draw_5 wd_1599 ?_
  refine hs_lmul dX9_draw_8 ?_
  refine hs_ldc2 (v := (12345 : Int64)) dX9_draw_9 wd_1600 ?_
  refine hs_ladd dX9_draw_12 ?_
  refine hs_ldc2 (v := (2147483648 : Int64)) dX9_draw_13 wd_1601 ?_
  refine hs_lrem dX9_draw_16 (by decide) ?_
  obtain ⟨r2, h2, h⟩ := hb_bind h
  refine hs_putL dX9_draw_17 lpX9_draw_154 rfl h2 ?_
  refine hs_aload_n dX9_draw_20 0 rfl ?_
  obtain ⟨r3, h3, h⟩ := hb_bind h
  refine hs_getL dX9_draw_21 lkX9_154 rfl h3 ?_
  refine hs_ldc2 (v := (65536 : Int64)) dX9_draw_24 wd_1602 ?_
  refine hs_ldiv dX9_draw_27 (by decide) ?_
  refine hs_iload_n dX9_draw_28 1 rfl ?_
  refine hs_i2l dX9_draw_29 ?_
  by_cases hc4 : x1.toInt64 = 0
  · rw [if_pos hc4] at h
    cases h
  rw [if_neg hc4] at h
  refine hs_lrem dX9_draw_30 hc4 ?_
  refine hs_l2i dX9_draw_31 ?_
  obtain rfl := Option.some.inj h
  exact hs_ireturn dX9_draw_32 rfl (by rfl) (fun _ => rfl)
def mX9_lowest : hb_Y := (yX9_lowest, cX9_lowest, 4, (some .int), [], false)
theorem okX9_lowest : hb_okV mX9_lowest 1 := ⟨⟨hb_w 11 (by decide +kernel) (by decide +kernel), hb_w 1606 (by decide +kernel) (by decide +kernel), ⟨by decide +kernel, by decide +kernel, by decide +kernel⟩, by decide⟩, hb_w 1605 (by decide +kernel) (by decide +kernel), hb_wp (q := (yX9_lowest, 29)) 59 (by decide +kernel) (by decide +kernel)⟩
set_option maxHeartbeats 4000000 in
set_option maxRecDepth 20000 in
theorem c_X9_lowest_b30 {G : hb_G} {l : Launch} {z : Bool}  (k4 : Nat → Int32 → Int32 → hb_M → Option (Int32 × hb_M)) (hk4 : ∀ (x0 : Nat) (x2 : Int32) (x3 : Int32) (σ : hb_M) (r : (Int32 × hb_M)), k4 x0 x2 x3 σ = some r → hb_T G l z mX9_lowest 2 0 0 4 [(0, .ref x0), (2, .int x2), (3, .int x3)] [] σ (.inl (some (.int r.1)), r.2))  {x0 : Nat} {x2 : Int32} {s0 : Int32} {s1 : Int32} {σ : hb_M} {r : (Int32 × hb_M)} (h : f_X9_lowest_b30 k4 x0 x2 s0 s1 σ = some r) : hb_T G l z mX9_lowest 2 0 0 30 [(0, .ref x0), (2, .int x2)] [.int s1, .int s0] σ (.inl (some (.int r.1)), r.2) := by
  unfold f_X9_lowest_b30 at h
  refine hs_isub dX9_lowest_30 ?_
  refine hs_istore_n (lv' := [(3, .int (s0 - s1)), (0, .ref x0), (2, .int x2)]) dX9_lowest_31 (by decide) rfl ?_
  refine hs_iinc2 (k := (1 : Int32)) (lv' := [(2, .int (x2 + (1 : Int32))), (3, .int (s0 - s1)), (0, .ref x0)]) dX9_lowest_32 (by decide) 2 rfl (by decide) rfl ?_
  refine hs_goto (tgt := 4) dX9_lowest_35 (by decide) ?_
  refine hs_sub (lv' := [(0, .ref x0), (2, .int (x2 + (1 : Int32))), (3, .int (s0 - s1))]) [2, 0, 1] rfl ?_
  exact hk4 _ _ _ _ _ h
set_option maxHeartbeats 4000000 in
set_option maxRecDepth 20000 in
theorem c_X9_lowest_b16 {G : hb_G} {l : Launch} {z : Bool}  (k4 : Nat → Int32 → Int32 → hb_M → Option (Int32 × hb_M)) (hk4 : ∀ (x0 : Nat) (x2 : Int32) (x3 : Int32) (σ : hb_M) (r : (Int32 × hb_M)), k4 x0 x2 x3 σ = some r → hb_T G l z mX9_lowest 2 0 0 4 [(0, .ref x0), (2, .int x2), (3, .int x3)] [] σ (.inl (some (.int r.1)), r.2))  {x0 : Nat} {x2 : Int32} {x3 : Int32} {σ : hb_M} {r : (Int32 × hb_M)} (h : f_X9_lowest_b16 k4 x0 x2 x3 σ = some r) : hb_T G l z mX9_lowest 2 0 0 16 [(0, .ref x0), (2, .int x2), (3, .int x3)] [] σ (.inl (some (.int r.1)), r.2) := by
  unfold f_X9_lowest_b16 at h
  refine hs_iload_n dX9_lowest_16 2 rfl ?_
  refine hs_aload_n dX9_lowest_17 0 rfl ?_
  refine hs_iload_n dX9_lowest_18 1 rfl ?_
  obtain ⟨r1, h1, h⟩ := hb_bind h
  obtain ⟨h1, nf1, hb1⟩ := hb_on_at h1
  refine hs_callVi (μ' := mX9_isObject) (mc := 0) (ms := 0) (rc := 0) (rs := 0) (As := [.int x2]) (rest := [.int x3]) (ci := 9) dX9_lowest_19 lmX9_106 okX9_isObject rfl (by decide) rfl (Nat.le_of_ble_eq_true rfl) rfl hb1 (c_X9_isObject h1) ?_
  refine hs_if_eq (tgt := 29) dX9_lowest_22 (by decide) (fun hc2 => ?_) (fun hc2 => ?_)
  · rw [if_pos hc2] at h
    refine hs_iconst (v := (0 : Int32)) dX9_lowest_29 (by decide) ?_
    refine hs_sub (lv' := [(0, .ref x0), (2, .int x2)]) [0, 1] rfl ?_
    exact c_X9_lowest_b30 k4 hk4 h
  · rw [if_neg hc2] at h
    refine hs_iconst (v := (1 : Int32)) dX9_lowest_25 (by decide) ?_
    refine hs_goto (tgt := 30) dX9_lowest_26 (by decide) ?_
    refine hs_sub (lv' := [(0, .ref x0), (2, .int x2)]) [0, 1] rfl ?_
    exact c_X9_lowest_b30 k4 hk4 h
set_option maxHeartbeats 4000000 in
set_option maxRecDepth 20000 in
theorem c_X9_lowest_b4 {G : hb_G} {l : Launch} {z : Bool} : ∀ (n : Nat) (x0 : Nat) (x2 : Int32) (x3 : Int32) (σ : hb_M) (r : (Int32 × hb_M)), f_X9_lowest_b4 n x0 x2 x3 σ = some r → hb_T G l z mX9_lowest 2 0 0 4 [(0, .ref x0), (2, .int x2), (3, .int x3)] [] σ (.inl (some (.int r.1)), r.2) := by
  intro n
  induction n with
  | zero =>
    intro x0 x2 x3 σ r h
    cases h
  | succ n ih =>
    intro x0 x2 x3 σ r h
    rw [f_X9_lowest_b4] at h
    refine hs_aload_n dX9_lowest_4 0 rfl ?_
    refine hs_iload_n dX9_lowest_5 1 rfl ?_
    obtain ⟨r1, h1, h⟩ := hb_bind h
    obtain ⟨h1, nf1, hb1⟩ := hb_on_at h1
    refine hs_callVi (μ' := mX9_isObject) (mc := 0) (ms := 0) (rc := 0) (rs := 0) (As := [.int x2]) (rest := []) (ci := 9) dX9_lowest_6 lmX9_106 okX9_isObject rfl (by decide) rfl (Nat.le_of_ble_eq_true rfl) rfl hb1 (c_X9_isObject h1) ?_
    refine hs_if_eq (tgt := 16) dX9_lowest_9 (by decide) (fun hc2 => ?_) (fun hc2 => ?_)
    · rw [if_pos hc2] at h
      refine hs_sub (lv' := [(0, .ref x0), (2, .int x2), (3, .int x3)]) [0, 1, 2] rfl ?_
      exact c_X9_lowest_b16 (f_X9_lowest_b4 n) ih h
    · rw [if_neg hc2] at h
      refine hs_iload_n dX9_lowest_12 2 rfl ?_
      refine hs_if_le (tgt := 38) dX9_lowest_13 (by decide) (fun hc3 => ?_) (fun hc3 => ?_)
      · rw [if_pos hc3] at h
        refine hs_iload_n dX9_lowest_38 1 rfl ?_
        obtain rfl := Option.some.inj h
        exact hs_ireturn dX9_lowest_39 rfl (by rfl) (fun _ => rfl)
      · rw [if_neg hc3] at h
        refine hs_sub (lv' := [(0, .ref x0), (2, .int x2), (3, .int x3)]) [0, 1, 2] rfl ?_
        exact c_X9_lowest_b16 (f_X9_lowest_b4 n) ih h
set_option maxHeartbeats 4000000 in
set_option maxRecDepth 20000 in
theorem c_X9_lowest {G : hb_G} {l : Launch} {z : Bool} {x0 : Nat} {x1 : Int32} {σ : hb_M} {r : (Int32 × hb_M)} (h : f_X9_lowest x0 x1 σ = some r) : hb_Call G l z 2 0 0 mX9_lowest [.ref x0, .int x1] σ (.inl (some (.int r.1)), r.2) := by
  refine hb_met (by decide) (Nat.le_of_ble_eq_true rfl) ?_
  unfold f_X9_lowest at h
  refine hs_iconst (v := (0 : Int32)) dX9_lowest_0 (by decide) ?_
  refine hs_istore_n (lv' := [(2, .int (0 : Int32)), (0, .ref x0), (1, .int x1)]) dX9_lowest_1 (by decide) rfl ?_
  refine hs_iload_n dX9_lowest_2 2 rfl ?_
  refine hs_istore_n (lv' := [(3, .int x1), (2, .int (0 : Int32)), (0, .ref x0), (1, .int x1)]) dX9_lowest_3 (by decide) rfl ?_
  refine hs_sub (lv' := [(0, .ref x0), (2, .int (0 : Int32)), (3, .int x1)]) [2, 1, 0] rfl ?_
  exact c_X9_lowest_b4 hb_FU _ _ _ _ _ h
def mX9_populate : hb_Y := (yX9_populate, cX9_populate, 7, (some .int), [], false)
set_option maxHeartbeats 4000000 in
set_option maxRecDepth 20000 in
theorem c_X9_populate_b226 {G : hb_G} {l : Launch} {z : Bool}  (k55 : Nat → Int32 → Int32 → hb_M → Option (Int32 × hb_M)) (hk55 : ∀ (x0 : Nat) (x2 : Int32) (x3 : Int32) (σ : hb_M) (r : (Int32 × hb_M)), k55 x0 x2 x3 σ = some r → hb_T G l z mX9_populate 3 0 0 55 [(0, .ref x0), (2, .int x2), (3, .int x3)] [] σ (.inl (some (.int r.1)), r.2))  {x0 : Nat} {x2 : Int32} {x3 : Int32} {σ : hb_M} {r : (Int32 × hb_M)} (h : f_X9_populate_b226 k55 x0 x2 x3 σ = some r) : hb_T G l z mX9_populate 3 0 0 226 [(0, .ref x0), (2, .int x2), (3, .int x3)] [] σ (.inl (some (.int r.1)), r.2) := by
  unfold f_X9_populate_b226 at h
  refine hs_iinc2 (k := (1 : Int32)) (lv' := [(3, .int (x3 + (1 : Int32))), (0, .ref x0), (2, .int x2)]) dX9_populate_226 (by decide) 2 rfl (by decide) rfl ?_
  refine hs_goto (tgt := 55) dX9_populate_229 (by decide) ?_
  refine hs_sub (lv' := [(0, .ref x0), (2, .int x2), (3, .int (x3 + (1 : Int32)))]) [1, 2, 0] rfl ?_
  exact hk55 _ _ _ _ _ h
set_option maxHeartbeats 4000000 in
set_option maxRecDepth 20000 in
theorem c_X9_populate_b190 {G : hb_G} {l : Launch} {z : Bool}  (k55 : Nat → Int32 → Int32 → hb_M → Option (Int32 × hb_M)) (hk55 : ∀ (x0 : Nat) (x2 : Int32) (x3 : Int32) (σ : hb_M) (r : (Int32 × hb_M)), k55 x0 x2 x3 σ = some r → hb_T G l z mX9_populate 3 0 0 55 [(0, .ref x0), (2, .int x2), (3, .int x3)] [] σ (.inl (some (.int r.1)), r.2)) (k138 : Nat → Int32 → Int32 → Int32 → Int32 → hb_M → Option (Int32 × hb_M)) (hk138 : ∀ (x0 : Nat) (x2 : Int32) (x3 : Int32) (x5 : Int32) (x6 : Int32) (σ : hb_M) (r : (Int32 × hb_M)), k138 x0 x2 x3 x5 x6 σ = some r → hb_T G l z mX9_populate 3 0 0 138 [(0, .ref x0), (2, .int x2), (3, .int x3), (5, .int x5), (6, .int x6)] [] σ (.inl (some (.int r.1)), r.2))  {x0 : Nat} {x2 : Int32} {x3 : Int32} {x5 : Int32} {x6 : Int32} {σ : hb_M} {r : (Int32 × hb_M)} (h : f_X9_populate_b190 k55 k138 x0 x2 x3 x5 x6 σ = some r) : hb_T G l z mX9_populate 3 0 0 190 [(0, .ref x0), (2, .int x2), (3, .int x3), (5, .int x5), (6, .int x6)] [] σ (.inl (some (.int r.1)), r.2) := by
  unfold f_X9_populate_b190 at h
  refine hs_iinc2 (k := (1 : Int32)) (lv' := [(6, .int (x6 + (1 : Int32))), (0, .ref x0), (2, .int x2), (3, .int x3), (5, .int x5)]) dX9_populate_190 (by decide) 4 rfl (by decide) rfl ?_
  refine hs_goto (tgt := 138) dX9_populate_193 (by decide) ?_
  refine hs_sub (lv' := [(0, .ref x0), (2, .int x2), (3, .int x3), (5, .int x5), (6, .int (x6 + (1 : Int32)))]) [1, 2, 3, 4, 0] rfl ?_
  exact hk138 _ _ _ _ _ _ _ h
set_option maxHeartbeats 4000000 in
set_option maxRecDepth 20000 in
theorem c_X9_populate_b138 {G : hb_G} {l : Launch} {z : Bool}  (k55 : Nat → Int32 → Int32 → hb_M → Option (Int32 × hb_M)) (hk55 : ∀ (x0 : Nat) (x2 : Int32) (x3 : Int32) (σ : hb_M) (r : (Int32 × hb_M)), k55 x0 x2 x3 σ = some r → hb_T G l z mX9_populate 3 0 0 55 [(0, .ref x0), (2, .int x2), (3, .int x3)] [] σ (.inl (some (.int r.1)), r.2)) : ∀ (n : Nat) (x0 : Nat) (x2 : Int32) (x3 : Int32) (x5 : Int32) (x6 : Int32) (σ : hb_M) (r : (Int32 × hb_M)), f_X9_populate_b138 k55 n x0 x2 x3 x5 x6 σ = some r → hb_T G l z mX9_populate 3 0 0 138 [(0, .ref x0), (2, .int x2), (3, .int x3), (5, .int x5), (6, .int x6)] [] σ (.inl (some (.int r.1)), r.2) := by
  intro n
  induction n with
  | zero =>
    intro x0 x2 x3 x5 x6 σ r h
    cases h
  | succ n ih =>
    intro x0 x2 x3 x5 x6 σ r h
    rw [f_X9_populate_b138] at h
    refine hs_iload dX9_populate_138 4 rfl ?_
    refine hs_aload_n dX9_populate_140 0 rfl ?_
    obtain ⟨r1, h1, h⟩ := hb_bind h
    refine hs_getR dX9_populate_141 lkX9_7 rfl h1 ?_
    refine hs_iload dX9_populate_144 3 rfl ?_
    obtain ⟨r2, h2, h⟩ := hb_bind h
    refine hs_callSi (μ' := mX9_at) (mc := 0) (ms := 0) (rc := 0) (rs := 0) (As := [.int x5]) (rest := [.ref r1, .int x6]) dX9_populate_146 lmX9_103 okX9_at rfl (by decide) rfl (Nat.le_of_ble_eq_true rfl) (c_X9_at h2) ?_
    refine hs_iconst (v := (2 : Int32)) dX9_populate_149 (by decide) ?_
    refine hs_iadd dX9_populate_150 ?_
    obtain ⟨r3, h3, h⟩ := hb_bind h
    refine hs_iald dX9_populate_151 h3 ?_
    refine hs_icmp_ge (tgt := 196) dX9_populate_152 (by decide) (fun hc4 => ?_) (fun hc4 => ?_)
    · rw [if_pos hc4] at h
      refine hs_aload_n dX9_populate_196 0 rfl ?_
      refine hs_iconst (v := (5 : Int32)) dX9_populate_197 (by decide) ?_
      obtain ⟨r5, h5, h⟩ := hb_bind h
      obtain ⟨h5, nf5, hb5⟩ := hb_on_at h5
      refine hs_callVi (μ' := mX9_draw) (mc := 0) (ms := 0) (rc := 0) (rs := 0) (As := [.int (5 : Int32)]) (rest := []) (ci := 9) dX9_populate_198 lmX9_166 okX9_draw rfl (by decide) rfl (Nat.le_of_ble_eq_true rfl) rfl hb5 (c_X9_draw h5) ?_
      refine hs_if_ne (tgt := 226) dX9_populate_201 (by decide) (fun hc6 => ?_) (fun hc6 => ?_)
      · rw [if_neg hc6] at h
        refine hs_sub (lv' := [(0, .ref x0), (2, .int x2), (3, .int x3)]) [0, 1, 2] rfl ?_
        exact c_X9_populate_b226 k55 hk55 h
      · rw [if_pos hc6] at h
        refine hs_aload_n dX9_populate_204 0 rfl ?_
        obtain ⟨r7, h7, h⟩ := hb_bind h
        refine hs_getR dX9_populate_205 lkX9_7 rfl h7 ?_
        refine hs_iload dX9_populate_208 3 rfl ?_
        obtain ⟨r8, h8, h⟩ := hb_bind h
        refine hs_callSi (μ' := mX9_at) (mc := 0) (ms := 0) (rc := 0) (rs := 0) (As := [.int x5]) (rest := [.ref r7]) dX9_populate_210 lmX9_103 okX9_at rfl (by decide) rfl (Nat.le_of_ble_eq_true rfl) (c_X9_at h8) ?_
        refine hs_iconst (v := (4 : Int32)) dX9_populate_213 (by decide) ?_
        refine hs_iadd dX9_populate_214 ?_
        refine hs_dup2 dX9_populate_215 rfl rfl ?_
        obtain ⟨r9, h9, h⟩ := hb_bind h
        refine hs_iald dX9_populate_216 h9 ?_
        refine hs_iconst (v := (1 : Int32)) dX9_populate_217 (by decide) ?_
        refine hs_aload_n dX9_populate_218 0 rfl ?_
        refine hs_iconst (v := (3 : Int32)) dX9_populate_219 (by decide) ?_
        obtain ⟨r10, h10, h⟩ := hb_bind h
        obtain ⟨h10, nf10, hb10⟩ := hb_on_at h10
        refine hs_callVi (μ' := mX9_draw) (mc := 0) (ms := 0) (rc := 0) (rs := 0) (As := [.int (3 : Int32)]) (rest := [.int (1 : Int32), .int r9, .int (r8.1 + (4 : Int32)), .ref r7]) (ci := 9) dX9_populate_220 lmX9_166 okX9_draw rfl (by decide) rfl (Nat.le_of_ble_eq_true rfl) rfl hb10 (c_X9_draw h10) ?_
        refine hs_ishl dX9_populate_223 ?_
        refine hs_ior dX9_populate_224 ?_
        obtain ⟨r11, h11, h⟩ := hb_bind h
        refine hs_iast dX9_populate_225 h11 ?_
        refine hs_sub (lv' := [(0, .ref x0), (2, .int x2), (3, .int x3)]) [0, 1, 2] rfl ?_
        exact c_X9_populate_b226 k55 hk55 h
    · rw [if_neg hc4] at h
      refine hs_aload_n dX9_populate_155 0 rfl ?_
      refine hs_iconst (v := (3 : Int32)) dX9_populate_156 (by decide) ?_
      obtain ⟨r12, h12, h⟩ := hb_bind h
      obtain ⟨h12, nf12, hb12⟩ := hb_on_at h12
      refine hs_callVi (μ' := mX9_draw) (mc := 0) (ms := 0) (rc := 0) (rs := 0) (As := [.int (3 : Int32)]) (rest := []) (ci := 9) dX9_populate_157 lmX9_166 okX9_draw rfl (by decide) rfl (Nat.le_of_ble_eq_true rfl) rfl hb12 (c_X9_draw h12) ?_
      refine hs_if_eq (tgt := 190) dX9_populate_160 (by decide) (fun hc13 => ?_) (fun hc13 => ?_)
      · rw [if_pos hc13] at h
        refine hs_sub (lv' := [(0, .ref x0), (2, .int x2), (3, .int x3), (5, .int x5), (6, .int x6)]) [0, 1, 2, 3, 4] rfl ?_
        exact c_X9_populate_b190 k55 hk55 (f_X9_populate_b138 k55 n) ih h
      · rw [if_neg hc13] at h
        refine hs_aload_n dX9_populate_163 0 rfl ?_
        obtain ⟨r14, h14, h⟩ := hb_bind h
        refine hs_getR dX9_populate_164 lkX9_7 rfl h14 ?_
        refine hs_iload dX9_populate_167 3 rfl ?_
        obtain ⟨r15, h15, h⟩ := hb_bind h
        refine hs_callSi (μ' := mX9_at) (mc := 0) (ms := 0) (rc := 0) (rs := 0) (As := [.int x5]) (rest := [.ref r14]) dX9_populate_169 lmX9_103 okX9_at rfl (by decide) rfl (Nat.le_of_ble_eq_true rfl) (c_X9_at h15) ?_
        refine hs_iconst (v := (5 : Int32)) dX9_populate_172 (by decide) ?_
        refine hs_iadd dX9_populate_173 ?_
        refine hs_iload dX9_populate_174 4 rfl ?_
        refine hs_iadd dX9_populate_176 ?_
        refine hs_aload_n dX9_populate_177 0 rfl ?_
        refine hs_aload_n dX9_populate_178 0 rfl ?_
        refine hs_aload_n dX9_populate_179 0 rfl ?_
        obtain ⟨r16, h16, h⟩ := hb_bind h
        obtain ⟨h16, nf16, hb16⟩ := hb_on_at h16
        refine hs_callVi (μ' := mX9_many) (mc := 0) (ms := 0) (rc := 0) (rs := 0) (As := []) (rest := [.ref x0, .ref x0, .int ((r15.1 + (5 : Int32)) + x6), .ref r14]) (ci := 9) dX9_populate_180 lmX9_112 okX9_many rfl (by decide) rfl (Nat.le_of_ble_eq_true rfl) rfl hb16 (c_X9_many h16) ?_
        obtain ⟨r17, h17, h⟩ := hb_bind h
        obtain ⟨h17, nf17, hb17⟩ := hb_on_at h17
        refine hs_callVi (μ' := mX9_draw) (mc := 0) (ms := 0) (rc := 0) (rs := 0) (As := [.int r16.1]) (rest := [.ref x0, .int ((r15.1 + (5 : Int32)) + x6), .ref r14]) (ci := 9) dX9_populate_183 lmX9_166 okX9_draw rfl (by decide) rfl (Nat.le_of_ble_eq_true rfl) rfl hb17 (c_X9_draw h17) ?_
        obtain ⟨r18, h18, h⟩ := hb_bind h
        obtain ⟨h18, nf18, hb18⟩ := hb_on_at h18
        refine hs_callVi (μ' := mX9_lowest) (mc := 0) (ms := 0) (rc := 0) (rs := 0) (As := [.int r17.1]) (rest := [.int ((r15.1 + (5 : Int32)) + x6), .ref r14]) (ci := 9) dX9_populate_186 lmX9_169 okX9_lowest rfl (by decide) rfl (Nat.le_of_ble_eq_true rfl) rfl hb18 (c_X9_lowest h18) ?_
        obtain ⟨r19, h19, h⟩ := hb_bind h
        refine hs_iast dX9_populate_189 h19 ?_
        refine hs_sub (lv' := [(0, .ref x0), (2, .int x2), (3, .int x3), (5, .int x5), (6, .int x6)]) [0, 1, 2, 3, 4] rfl ?_
        exact c_X9_populate_b190 k55 hk55 (f_X9_populate_b138 k55 n) ih h
set_option maxHeartbeats 4000000 in
set_option maxRecDepth 20000 in
theorem c_X9_populate_b135 {G : hb_G} {l : Launch} {z : Bool}  (k55 : Nat → Int32 → Int32 → hb_M → Option (Int32 × hb_M)) (hk55 : ∀ (x0 : Nat) (x2 : Int32) (x3 : Int32) (σ : hb_M) (r : (Int32 × hb_M)), k55 x0 x2 x3 σ = some r → hb_T G l z mX9_populate 3 0 0 55 [(0, .ref x0), (2, .int x2), (3, .int x3)] [] σ (.inl (some (.int r.1)), r.2))  {x0 : Nat} {x2 : Int32} {x3 : Int32} {x5 : Int32} {σ : hb_M} {r : (Int32 × hb_M)} (h : f_X9_populate_b135 k55 x0 x2 x3 x5 σ = some r) : hb_T G l z mX9_populate 3 0 0 135 [(0, .ref x0), (2, .int x2), (3, .int x3), (5, .int x5)] [] σ (.inl (some (.int r.1)), r.2) := by
  unfold f_X9_populate_b135 at h
  refine hs_iconst (v := (0 : Int32)) dX9_populate_135 (by decide) ?_
  refine hs_istore (lv' := [(6, .int (0 : Int32)), (0, .ref x0), (2, .int x2), (3, .int x3), (5, .int x5)]) dX9_populate_136 (by decide) rfl ?_
  refine hs_sub (lv' := [(0, .ref x0), (2, .int x2), (3, .int x3), (5, .int x5), (6, .int (0 : Int32))]) [1, 2, 3, 4, 0] rfl ?_
  exact c_X9_populate_b138 k55 hk55 hb_FU _ _ _ _ _ _ _ h
set_option maxHeartbeats 4000000 in
set_option maxRecDepth 20000 in
theorem c_X9_populate_b133 {G : hb_G} {l : Launch} {z : Bool}  (k55 : Nat → Int32 → Int32 → hb_M → Option (Int32 × hb_M)) (hk55 : ∀ (x0 : Nat) (x2 : Int32) (x3 : Int32) (σ : hb_M) (r : (Int32 × hb_M)), k55 x0 x2 x3 σ = some r → hb_T G l z mX9_populate 3 0 0 55 [(0, .ref x0), (2, .int x2), (3, .int x3)] [] σ (.inl (some (.int r.1)), r.2))  {x0 : Nat} {x2 : Int32} {x3 : Int32} {s0 : Int32} {σ : hb_M} {r : (Int32 × hb_M)} (h : f_X9_populate_b133 k55 x0 x2 x3 s0 σ = some r) : hb_T G l z mX9_populate 3 0 0 133 [(0, .ref x0), (2, .int x2), (3, .int x3)] [.int s0] σ (.inl (some (.int r.1)), r.2) := by
  unfold f_X9_populate_b133 at h
  refine hs_istore (lv' := [(5, .int s0), (0, .ref x0), (2, .int x2), (3, .int x3)]) dX9_populate_133 (by decide) rfl ?_
  refine hs_sub (lv' := [(0, .ref x0), (2, .int x2), (3, .int x3), (5, .int s0)]) [1, 2, 3, 0] rfl ?_
  exact c_X9_populate_b135 k55 hk55 h
set_option maxHeartbeats 4000000 in
set_option maxRecDepth 20000 in
theorem c_X9_populate_b55 {G : hb_G} {l : Launch} {z : Bool} : ∀ (n : Nat) (x0 : Nat) (x2 : Int32) (x3 : Int32) (σ : hb_M) (r : (Int32 × hb_M)), f_X9_populate_b55 n x0 x2 x3 σ = some r → hb_T G l z mX9_populate 3 0 0 55 [(0, .ref x0), (2, .int x2), (3, .int x3)] [] σ (.inl (some (.int r.1)), r.2) := by
  intro n
  induction n with
  | zero =>
    intro x0 x2 x3 σ r h
    cases h
  | succ n ih =>
    intro x0 x2 x3 σ r h
    rw [f_X9_populate_b55] at h
    refine hs_iload_n dX9_populate_55 2 rfl ?_
    refine hs_iload_n dX9_populate_56 1 rfl ?_
    refine hs_icmp_ge (tgt := 232) dX9_populate_57 (by decide) (fun hc1 => ?_) (fun hc1 => ?_)
    · rw [if_pos hc1] at h
      refine hs_aload_n dX9_populate_232 0 rfl ?_
      obtain ⟨r2, h2, h⟩ := hb_bind h
      obtain ⟨h2, nf2, hb2⟩ := hb_on_at h2
      refine hs_callVi (μ' := mX9_many) (mc := 0) (ms := 0) (rc := 0) (rs := 0) (As := []) (rest := []) (ci := 9) dX9_populate_233 lmX9_112 okX9_many rfl (by decide) rfl (Nat.le_of_ble_eq_true rfl) rfl hb2 (c_X9_many h2) ?_
      obtain rfl := Option.some.inj h
      exact hs_ireturn dX9_populate_236 rfl (by rfl) (fun _ => rfl)
    · rw [if_neg hc1] at h
      refine hs_aload_n dX9_populate_60 0 rfl ?_
      refine hs_iconst (v := (4 : Int32)) dX9_populate_61 (by decide) ?_
      obtain ⟨r3, h3, h⟩ := hb_bind h
      obtain ⟨h3, nf3, hb3⟩ := hb_on_at h3
      refine hs_callVi (μ' := mX9_draw) (mc := 0) (ms := 0) (rc := 0) (rs := 0) (As := [.int (4 : Int32)]) (rest := []) (ci := 9) dX9_populate_62 lmX9_166 okX9_draw rfl (by decide) rfl (Nat.le_of_ble_eq_true rfl) rfl hb3 (c_X9_draw h3) ?_
      refine hs_istore (lv' := [(4, .int r3.1), (0, .ref x0), (2, .int x2), (3, .int x3)]) dX9_populate_65 (by decide) rfl ?_
      refine hs_iconst (v := (0 : Int32)) dX9_populate_67 (by decide) ?_
      refine hs_istore (lv' := [(5, .int (0 : Int32)), (4, .int r3.1), (0, .ref x0), (2, .int x2), (3, .int x3)]) dX9_populate_68 (by decide) rfl ?_
      refine hs_iload dX9_populate_70 1 rfl ?_
      refine hs_iconst (v := (2 : Int32)) dX9_populate_72 (by decide) ?_
      refine hs_icmp_ge (tgt := 105) dX9_populate_73 (by decide) (fun hc4 => ?_) (fun hc4 => ?_)
      · rw [if_pos hc4] at h
        refine hs_iload dX9_populate_105 1 rfl ?_
        refine hs_iconst (v := (2 : Int32)) dX9_populate_107 (by decide) ?_
        refine hs_icmp_ne (tgt := 126) dX9_populate_108 (by decide) (fun hc5 => ?_) (fun hc5 => ?_)
        · rw [if_neg hc5] at h
          refine hs_aload_n dX9_populate_126 2 rfl ?_
          refine hs_bipush (v := (11 : Int32)) dX9_populate_127 (by decide) ?_
          refine hs_iconst (v := (1 : Int32)) dX9_populate_129 (by decide) ?_
          obtain ⟨r6, h6, h⟩ := hb_bind h
          obtain ⟨h6, nf6, hb6⟩ := hb_on_at h6
          refine hs_callVi (μ' := mX9_creates) (mc := 0) (ms := 0) (rc := 0) (rs := 0) (As := [.int (11 : Int32), .int (1 : Int32)]) (rest := []) (ci := 9) dX9_populate_130 lmX9_119 okX9_creates rfl (by decide) rfl (Nat.le_of_ble_eq_true rfl) rfl hb6 (c_X9_creates h6) ?_
          refine hs_sub (lv' := [(0, .ref x0), (2, .int x2), (3, .int x3)]) [2, 3, 4] rfl ?_
          exact c_X9_populate_b133 (f_X9_populate_b55 n) ih h
        · rw [if_pos hc5] at h
          refine hs_aload_n dX9_populate_111 2 rfl ?_
          refine hs_bipush (v := (10 : Int32)) dX9_populate_112 (by decide) ?_
          refine hs_aload_n dX9_populate_114 2 rfl ?_
          refine hs_bipush (v := (9 : Int32)) dX9_populate_115 (by decide) ?_
          obtain ⟨r7, h7, h⟩ := hb_bind h
          obtain ⟨h7, nf7, hb7⟩ := hb_on_at h7
          refine hs_callVi (μ' := mX9_draw) (mc := 0) (ms := 0) (rc := 0) (rs := 0) (As := [.int (9 : Int32)]) (rest := [.int (10 : Int32), .ref x0]) (ci := 9) dX9_populate_117 lmX9_166 okX9_draw rfl (by decide) rfl (Nat.le_of_ble_eq_true rfl) rfl hb7 (c_X9_draw h7) ?_
          obtain ⟨r8, h8, h⟩ := hb_bind h
          obtain ⟨h8, nf8, hb8⟩ := hb_on_at h8
          refine hs_callVi (μ' := mX9_creates) (mc := 0) (ms := 0) (rc := 0) (rs := 0) (As := [.int (10 : Int32), .int r7.1]) (rest := []) (ci := 9) dX9_populate_120 lmX9_119 okX9_creates rfl (by decide) rfl (Nat.le_of_ble_eq_true rfl) rfl hb8 (c_X9_creates h8) ?_
          refine hs_goto (tgt := 133) dX9_populate_123 (by decide) ?_
          refine hs_sub (lv' := [(0, .ref x0), (2, .int x2), (3, .int x3)]) [2, 3, 4] rfl ?_
          exact c_X9_populate_b133 (f_X9_populate_b55 n) ih h
      · rw [if_neg hc4] at h
        refine hs_aload_n dX9_populate_76 2 rfl ?_
        refine hs_aload_n dX9_populate_77 2 rfl ?_
        obtain ⟨r9, h9, h⟩ := hb_bind h
        refine hs_getR dX9_populate_78 lkX9_7 rfl h9 ?_
        refine hs_iconst (v := (0 : Int32)) dX9_populate_81 (by decide) ?_
        obtain ⟨r10, h10, h⟩ := hb_bind h
        refine hs_iald dX9_populate_82 h10 ?_
        obtain ⟨r11, h11, h⟩ := hb_bind h
        obtain ⟨h11, nf11, hb11⟩ := hb_on_at h11
        refine hs_callVi (μ' := mX9_draw) (mc := 0) (ms := 0) (rc := 0) (rs := 0) (As := [.int r10]) (rest := []) (ci := 9) dX9_populate_83 lmX9_166 okX9_draw rfl (by decide) rfl (Nat.le_of_ble_eq_true rfl) rfl hb11 (c_X9_draw h11) ?_
        refine hs_istore (lv' := [(6, .int r11.1), (5, .int (0 : Int32)), (4, .int r3.1), (0, .ref x0), (2, .int x2), (3, .int x3)]) dX9_populate_86 (by decide) rfl ?_
        refine hs_aload_n dX9_populate_88 3 rfl ?_
        refine hs_iload dX9_populate_89 0 rfl ?_
        refine hs_aload_n dX9_populate_91 3 rfl ?_
        refine hs_iload dX9_populate_92 0 rfl ?_
        obtain ⟨r12, h12, h⟩ := hb_bind h
        obtain ⟨h12, nf12, hb12⟩ := hb_on_at h12
        refine hs_callVi (μ' := mX9_fieldsOf) (mc := 0) (ms := 0) (rc := 0) (rs := 0) (As := [.int r11.1]) (rest := [.int r11.1, .ref x0]) (ci := 9) dX9_populate_94 lmX9_82 okX9_fieldsOf rfl (by decide) rfl (Nat.le_of_ble_eq_true rfl) rfl hb12 (c_X9_fieldsOf h12) ?_
        obtain ⟨r13, h13, h⟩ := hb_bind h
        obtain ⟨h13, nf13, hb13⟩ := hb_on_at h13
        refine hs_callVi (μ' := mX9_creates) (mc := 0) (ms := 0) (rc := 0) (rs := 0) (As := [.int r11.1, .int r12.1]) (rest := []) (ci := 9) dX9_populate_97 lmX9_119 okX9_creates rfl (by decide) rfl (Nat.le_of_ble_eq_true rfl) rfl hb13 (c_X9_creates h13) ?_
        refine hs_istore (lv' := [(5, .int r13.1), (6, .int r11.1), (4, .int r3.1), (0, .ref x0), (2, .int x2), (3, .int x3)]) dX9_populate_100 (by decide) rfl ?_
        refine hs_goto (tgt := 135) dX9_populate_102 (by decide) ?_
        refine hs_sub (lv' := [(0, .ref x0), (2, .int x2), (3, .int x3), (5, .int r13.1)]) [3, 4, 5, 0] rfl ?_
        exact c_X9_populate_b135 (f_X9_populate_b55 n) ih h
set_option maxHeartbeats 4000000 in
set_option maxRecDepth 20000 in
theorem c_X9_populate_b35 {G : hb_G} {l : Launch} {z : Bool}  {x0 : Nat} {x1 : Int32} {x2 : Int32} {s0 : Nat} {s1 : Int32} {σ : hb_M} {r : (Int32 × hb_M)} (h : f_X9_populate_b35 x0 x1 x2 s0 s1 σ = some r) : hb_T G l z mX9_populate 3 0 0 35 [(0, .ref x0), (1, .int x1), (2, .int x2)] [.int s1, .ref s0] σ (.inl (some (.int r.1)), r.2) := by
  unfold f_X9_populate_b35 at h
  obtain ⟨r1, h1, h⟩ := hb_bind h
  obtain ⟨h1, nf1, hb1⟩ := hb_on_at h1
  refine hs_callVi (μ' := mX9_refused) (mc := 0) (ms := 0) (rc := 0) (rs := 0) (As := [.int s1]) (rest := []) (ci := 9) dX9_populate_35 lmX9_74 okX9_refused rfl (by decide) rfl (Nat.le_of_ble_eq_true rfl) rfl hb1 (c_X9_refused h1) ?_
  refine hs_if_eq (tgt := 43) dX9_populate_38 (by decide) (fun hc2 => ?_) (fun hc2 => ?_)
  · rw [if_pos hc2] at h
    refine hs_aload_n dX9_populate_43 0 rfl ?_
    obtain ⟨r3, h3, h⟩ := hb_bind h
    obtain ⟨h3, nf3, hb3⟩ := hb_on_at h3
    refine hs_callVv (μ' := mX9_saves) (mc := 0) (ms := 0) (rc := 0) (rs := 0) (As := []) (rest := []) (ci := 9) dX9_populate_44 lmX9_89 okX9_saves rfl (by decide) rfl (Nat.le_of_ble_eq_true rfl) rfl hb3 (c_X9_saves h3) ?_
    refine hs_aload_n dX9_populate_47 0 rfl ?_
    refine hs_iload_n dX9_populate_48 1 rfl ?_
    refine hs_i2l dX9_populate_49 ?_
    obtain ⟨r4, h4, h⟩ := hb_bind h
    refine hs_putL dX9_populate_50 lpX9_populate_154 rfl h4 ?_
    refine hs_iconst (v := (0 : Int32)) dX9_populate_53 (by decide) ?_
    refine hs_istore_n (lv' := [(3, .int (0 : Int32)), (0, .ref x0), (1, .int x1), (2, .int x2)]) dX9_populate_54 (by decide) rfl ?_
    refine hs_sub (lv' := [(0, .ref x0), (2, .int x2), (3, .int (0 : Int32))]) [1, 3, 0] rfl ?_
    exact c_X9_populate_b55 hb_FU _ _ _ _ _ h
  · rw [if_neg hc2] at h
    refine hs_iconst (v := (0 : Int32)) dX9_populate_41 (by decide) ?_
    obtain rfl := Option.some.inj h
    exact hs_ireturn dX9_populate_42 rfl (by rfl) (fun _ => rfl)
set_option maxHeartbeats 4000000 in
set_option maxRecDepth 20000 in
theorem c_X9_populate_b15 {G : hb_G} {l : Launch} {z : Bool}  {x0 : Nat} {x1 : Int32} {x2 : Int32} {s0 : Nat} {σ : hb_M} {r : (Int32 × hb_M)} (h : f_X9_populate_b15 x0 x1 x2 s0 σ = some r) : hb_T G l z mX9_populate 3 0 0 15 [(0, .ref x0), (1, .int x1), (2, .int x2)] [.ref s0] σ (.inl (some (.int r.1)), r.2) := by
  unfold f_X9_populate_b15 at h
  refine hs_iconst (v := (1 : Int32)) dX9_populate_15 (by decide) ?_
  refine hs_goto (tgt := 35) dX9_populate_16 (by decide) ?_
  refine hs_sub (lv' := [(0, .ref x0), (1, .int x1), (2, .int x2)]) [0, 1, 2] rfl ?_
  exact c_X9_populate_b35 h
set_option maxHeartbeats 4000000 in
set_option maxRecDepth 20000 in
theorem c_X9_populate {G : hb_G} {l : Launch} {z : Bool} {x0 : Nat} {x1 : Int32} {x2 : Int32} {σ : hb_M} {r : (Int32 × hb_M)} (h : f_X9_populate x0 x1 x2 σ = some r) : hb_Call G l z 3 0 0 mX9_populate [.ref x0, .int x1, .int x2] σ (.inl (some (.int r.1)), r.2) := by
  refine hb_met (by decide) (Nat.le_of_ble_eq_true rfl) ?_
  unfold f_X9_populate at h
  refine hs_aload_n dX9_populate_0 0 rfl ?_
  refine hs_iload_n dX9_populate_1 1 rfl ?_
  refine hs_if_lt (tgt := 15) dX9_populate_2 (by decide) (fun hc1 => ?_) (fun hc1 => ?_)
  · rw [if_pos hc1] at h
    refine hs_sub (lv' := [(0, .ref x0), (1, .int x1), (2, .int x2)]) [0, 1, 2] rfl ?_
    exact c_X9_populate_b15 h
  · rw [if_neg hc1] at h
    refine hs_iload_n dX9_populate_5 2 rfl ?_
    refine hs_iconst (v := (1 : Int32)) dX9_populate_6 (by decide) ?_
    refine hs_bipush (v := (40 : Int32)) dX9_populate_7 (by decide) ?_
    obtain ⟨r2, h2, h⟩ := hb_bind h
    refine hs_callSi (μ' := mX9_within) (mc := 0) (ms := 0) (rc := 0) (rs := 0) (As := [.int x2, .int (1 : Int32), .int (40 : Int32)]) (rest := [.ref x0]) dX9_populate_9 lmX9_78 okX9_within rfl (by decide) rfl (Nat.le_of_ble_eq_true rfl) (c_X9_within h2) ?_
    refine hs_if_ne (tgt := 19) dX9_populate_12 (by decide) (fun hc3 => ?_) (fun hc3 => ?_)
    · rw [if_neg hc3] at h
      refine hs_aload_n dX9_populate_19 0 rfl ?_
      obtain ⟨r4, h4, h⟩ := hb_bind h
      obtain ⟨h4, nf4, hb4⟩ := hb_on_at h4
      refine hs_callVi (μ' := mX9_many) (mc := 0) (ms := 0) (rc := 0) (rs := 0) (As := []) (rest := [.ref x0]) (ci := 9) dX9_populate_20 lmX9_112 okX9_many rfl (by decide) rfl (Nat.le_of_ble_eq_true rfl) rfl hb4 (c_X9_many h4) ?_
      refine hs_iload_n dX9_populate_23 2 rfl ?_
      refine hs_iadd dX9_populate_24 ?_
      refine hs_bipush (v := (40 : Int32)) dX9_populate_25 (by decide) ?_
      refine hs_icmp_le (tgt := 34) dX9_populate_27 (by decide) (fun hc5 => ?_) (fun hc5 => ?_)
      · rw [if_pos hc5] at h
        refine hs_iconst (v := (0 : Int32)) dX9_populate_34 (by decide) ?_
        refine hs_sub (lv' := [(0, .ref x0), (1, .int x1), (2, .int x2)]) [0, 1, 2] rfl ?_
        exact c_X9_populate_b35 h
      · rw [if_neg hc5] at h
        refine hs_iconst (v := (2 : Int32)) dX9_populate_30 (by decide) ?_
        refine hs_goto (tgt := 35) dX9_populate_31 (by decide) ?_
        refine hs_sub (lv' := [(0, .ref x0), (1, .int x1), (2, .int x2)]) [0, 1, 2] rfl ?_
        exact c_X9_populate_b35 h
    · rw [if_pos hc3] at h
      refine hs_sub (lv' := [(0, .ref x0), (1, .int x1), (2, .int x2)]) [0, 1, 2] rfl ?_
      exact c_X9_populate_b15 h
def mX9_laysRetained : hb_Y := (yX9_laysRetained, cX9_laysRetained, 2, none, [], false)
theorem okX9_laysRetained : hb_okV mX9_laysRetained 0 := ⟨⟨hb_w 11 (by decide +kernel) (by decide +kernel), hb_w 1633 (by decide +kernel) (by decide +kernel), ⟨by decide +kernel, by decide +kernel, by decide +kernel⟩, by decide⟩, hb_w 1632 (by decide +kernel) (by decide +kernel), hb_wp (q := (yX9_laysRetained, 29)) 62 (by decide +kernel) (by decide +kernel)⟩
set_option maxHeartbeats 4000000 in
set_option maxRecDepth 20000 in
theorem c_X9_laysRetained_b61 {G : hb_G} {l : Launch} {z : Bool}  (k14 : Nat → Int32 → hb_M → Option hb_M) (hk14 : ∀ (x0 : Nat) (x1 : Int32) (σ : hb_M) (r : hb_M), k14 x0 x1 σ = some r → hb_T G l z mX9_laysRetained 3 0 0 14 [(0, .ref x0), (1, .int x1)] [] σ (.inl none, r))  {x0 : Nat} {x1 : Int32} {s0 : Nat} {s1 : Int32} {s2 : Int64} {σ : hb_M} {r : hb_M} (h : f_X9_laysRetained_b61 k14 x0 x1 s0 s1 s2 σ = some r) : hb_T G l z mX9_laysRetained 3 0 0 61 [(0, .ref x0), (1, .int x1)] [.long s2, .int s1, .ref s0] σ (.inl none, r) := by
  unfold f_X9_laysRetained_b61 at h
  obtain ⟨r1, h1, h⟩ := hb_bind h
  refine hs_last dX9_laysRetained_61 h1 ?_
  refine hs_iinc2 (k := (1 : Int32)) (lv' := [(1, .int (x1 + (1 : Int32))), (0, .ref x0)]) dX9_laysRetained_62 (by decide) 1 rfl (by decide) rfl ?_
  refine hs_goto (tgt := 14) dX9_laysRetained_65 (by decide) ?_
  refine hs_sub (lv' := [(0, .ref x0), (1, .int (x1 + (1 : Int32)))]) [1, 0] rfl ?_
  exact hk14 _ _ _ _ h
set_option maxHeartbeats 4000000 in
set_option maxRecDepth 20000 in
theorem c_X9_laysRetained_b14 {G : hb_G} {l : Launch} {z : Bool} : ∀ (n : Nat) (x0 : Nat) (x1 : Int32) (σ : hb_M) (r : hb_M), f_X9_laysRetained_b14 n x0 x1 σ = some r → hb_T G l z mX9_laysRetained 3 0 0 14 [(0, .ref x0), (1, .int x1)] [] σ (.inl none, r) := by
  intro n
  induction n with
  | zero =>
    intro x0 x1 σ r h
    cases h
  | succ n ih =>
    intro x0 x1 σ r h
    rw [f_X9_laysRetained_b14] at h
    refine hs_iload_n dX9_laysRetained_14 1 rfl ?_
    refine hs_bipush (v := (40 : Int32)) dX9_laysRetained_15 (by decide) ?_
    refine hs_icmp_ge (tgt := 68) dX9_laysRetained_17 (by decide) (fun hc1 => ?_) (fun hc1 => ?_)
    · rw [if_pos hc1] at h
      obtain rfl := Option.some.inj h
      exact hs_return dX9_laysRetained_68 rfl (fun _ => rfl)
    · rw [if_neg hc1] at h
      refine hs_aload_n dX9_laysRetained_20 0 rfl ?_
      obtain ⟨r2, h2, h⟩ := hb_bind h
      refine hs_getR dX9_laysRetained_21 lkX9_31 rfl h2 ?_
      refine hs_iload_n dX9_laysRetained_24 1 rfl ?_
      refine hs_aload_n dX9_laysRetained_25 0 rfl ?_
      obtain ⟨r3, h3, h⟩ := hb_bind h
      refine hs_getL dX9_laysRetained_26 lkX9_178 rfl h3 ?_
      refine hs_iload_n dX9_laysRetained_29 1 rfl ?_
      refine hs_lshr dX9_laysRetained_30 ?_
      refine hs_lconst (v := (1 : Int64)) dX9_laysRetained_31 (by decide) ?_
      refine hs_land dX9_laysRetained_32 ?_
      refine hs_lconst (v := (1 : Int64)) dX9_laysRetained_33 (by decide) ?_
      refine hs_lcmp dX9_laysRetained_34 ?_
      refine hs_if_ne (tgt := 60) dX9_laysRetained_35 (by decide) (fun hc4 => ?_) (fun hc4 => ?_)
      · rw [if_neg hc4] at h
        refine hs_lconst (v := (0 : Int64)) dX9_laysRetained_60 (by decide) ?_
        refine hs_sub (lv' := [(0, .ref x0), (1, .int x1)]) [0, 1] rfl ?_
        exact c_X9_laysRetained_b61 (f_X9_laysRetained_b14 n) ih h
      · rw [if_pos hc4] at h
        refine hs_aload_n dX9_laysRetained_38 0 rfl ?_
        obtain ⟨r5, h5, h⟩ := hb_bind h
        refine hs_getL dX9_laysRetained_39 lkX9_178 rfl h5 ?_
        refine hs_aload_n dX9_laysRetained_42 0 rfl ?_
        refine hs_lconst (v := (1 : Int64)) dX9_laysRetained_43 (by decide) ?_
        refine hs_iload_n dX9_laysRetained_44 1 rfl ?_
        refine hs_lshl dX9_laysRetained_45 ?_
        refine hs_iconst (v := (-1 : Int32)) dX9_laysRetained_46 (by decide) ?_
        refine hs_iconst (v := (-1 : Int32)) dX9_laysRetained_47 (by decide) ?_
        refine hs_iconst (v := (-1 : Int32)) dX9_laysRetained_48 (by decide) ?_
        obtain ⟨r6, h6, h⟩ := hb_bind h
        obtain ⟨h6, nf6, hb6⟩ := hb_on_at h6
        refine hs_callVl (μ' := mX9_reached) (mc := 0) (ms := 0) (rc := 0) (rs := 0) (As := [.long ((1 : Int64) <<< (x1.toInt64 &&& 63)), .int (-1 : Int32), .int (-1 : Int32), .int (-1 : Int32)]) (rest := [.long r5, .int x1, .ref r2]) (ci := 9) dX9_laysRetained_49 lmX9_138 okX9_reached rfl (by decide) rfl (Nat.le_of_ble_eq_true rfl) rfl hb6 (c_X9_reached h6) ?_
        refine hs_ldc2 (v := (-1 : Int64)) dX9_laysRetained_52 wd_1558 ?_
        refine hs_lxor dX9_laysRetained_55 ?_
        refine hs_land dX9_laysRetained_56 ?_
        refine hs_goto (tgt := 61) dX9_laysRetained_57 (by decide) ?_
        refine hs_sub (lv' := [(0, .ref x0), (1, .int x1)]) [0, 1] rfl ?_
        exact c_X9_laysRetained_b61 (f_X9_laysRetained_b14 n) ih h
set_option maxHeartbeats 4000000 in
set_option maxRecDepth 20000 in
theorem c_X9_laysRetained {G : hb_G} {l : Launch} {z : Bool} {x0 : Nat} {σ : hb_M} {r : hb_M} (h : f_X9_laysRetained x0 σ = some r) : hb_Call G l z 3 0 0 mX9_laysRetained [.ref x0] σ (.inl none, r) := by
  refine hb_met (by decide) (Nat.le_of_ble_eq_true rfl) ?_
  unfold f_X9_laysRetained at h
  refine hs_aload_n dX9_laysRetained_0 0 rfl ?_
  refine hs_aload_n dX9_laysRetained_1 0 rfl ?_
  refine hs_lconst (v := (0 : Int64)) dX9_laysRetained_2 (by decide) ?_
  refine hs_iconst (v := (-1 : Int32)) dX9_laysRetained_3 (by decide) ?_
  refine hs_iconst (v := (-1 : Int32)) dX9_laysRetained_4 (by decide) ?_
  refine hs_iconst (v := (-1 : Int32)) dX9_laysRetained_5 (by decide) ?_
  obtain ⟨r1, h1, h⟩ := hb_bind h
  obtain ⟨h1, nf1, hb1⟩ := hb_on_at h1
  refine hs_callVl (μ' := mX9_reached) (mc := 0) (ms := 0) (rc := 0) (rs := 0) (As := [.long (0 : Int64), .int (-1 : Int32), .int (-1 : Int32), .int (-1 : Int32)]) (rest := [.ref x0]) (ci := 9) dX9_laysRetained_6 lmX9_138 okX9_reached rfl (by decide) rfl (Nat.le_of_ble_eq_true rfl) rfl hb1 (c_X9_reached h1) ?_
  obtain ⟨r2, h2, h⟩ := hb_bind h
  refine hs_putL dX9_laysRetained_9 lpX9_laysRetained_178 rfl h2 ?_
  refine hs_iconst (v := (0 : Int32)) dX9_laysRetained_12 (by decide) ?_
  refine hs_istore_n (lv' := [(1, .int (0 : Int32)), (0, .ref x0)]) dX9_laysRetained_13 (by decide) rfl ?_
  refine hs_sub (lv' := [(0, .ref x0), (1, .int (0 : Int32))]) [1, 0] rfl ?_
  exact c_X9_laysRetained_b14 hb_FU _ _ _ _ h
def mX9_isReached : hb_Y := (yX9_isReached, cX9_isReached, 2, (some .boolean), [], false)
theorem okX9_isReached : hb_okV mX9_isReached 1 := ⟨⟨hb_w 11 (by decide +kernel) (by decide +kernel), hb_w 1645 (by decide +kernel) (by decide +kernel), ⟨by decide +kernel, by decide +kernel, by decide +kernel⟩, by decide⟩, hb_w 1644 (by decide +kernel) (by decide +kernel), hb_wp (q := (yX9_isReached, 29)) 64 (by decide +kernel) (by decide +kernel)⟩
set_option maxHeartbeats 4000000 in
set_option maxRecDepth 20000 in
theorem c_X9_isReached {G : hb_G} {l : Launch} {z : Bool} {x0 : Nat} {x1 : Int32} {σ : hb_M} {r : (Int32 × hb_M)} (h : f_X9_isReached x0 x1 σ = some r) : hb_Call G l z 0 0 0 mX9_isReached [.ref x0, .int x1] σ (.inl (some (.int r.1)), r.2) := by
  refine hb_met (by decide) (Nat.le_of_ble_eq_true rfl) ?_
  unfold f_X9_isReached at h
  refine hs_aload_n dX9_isReached_0 0 rfl ?_
  obtain ⟨r1, h1, h⟩ := hb_bind h
  refine hs_getL dX9_isReached_1 lkX9_178 rfl h1 ?_
  refine hs_iload_n dX9_isReached_4 1 rfl ?_
  refine hs_lshr dX9_isReached_5 ?_
  refine hs_lconst (v := (1 : Int64)) dX9_isReached_6 (by decide) ?_
  refine hs_land dX9_isReached_7 ?_
  refine hs_lconst (v := (1 : Int64)) dX9_isReached_8 (by decide) ?_
  refine hs_lcmp dX9_isReached_9 ?_
  refine hs_if_ne (tgt := 17) dX9_isReached_10 (by decide) (fun hc2 => ?_) (fun hc2 => ?_)
  · rw [if_neg hc2] at h
    refine hs_iconst (v := (0 : Int32)) dX9_isReached_17 (by decide) ?_
    obtain rfl := Option.some.inj h
    exact hs_ireturn dX9_isReached_18 rfl (by decide) (fun _ => rfl)
  · rw [if_pos hc2] at h
    refine hs_iconst (v := (1 : Int32)) dX9_isReached_13 (by decide) ?_
    refine hs_goto (tgt := 18) dX9_isReached_14 (by decide) ?_
    obtain rfl := Option.some.inj h
    exact hs_ireturn dX9_isReached_18 rfl (by decide) (fun _ => rfl)
def mX9_depthOf : hb_Y := (yX9_depthOf, cX9_depthOf, 4, (some .int), [], false)
theorem okX9_depthOf : hb_okV mX9_depthOf 1 := ⟨⟨hb_w 11 (by decide +kernel) (by decide +kernel), hb_w 1649 (by decide +kernel) (by decide +kernel), ⟨by decide +kernel, by decide +kernel, by decide +kernel⟩, by decide⟩, hb_w 1648 (by decide +kernel) (by decide +kernel), hb_wp (q := (yX9_depthOf, 29)) 65 (by decide +kernel) (by decide +kernel)⟩
set_option maxHeartbeats 4000000 in
set_option maxRecDepth 20000 in
theorem c_X9_depthOf_b31 {G : hb_G} {l : Launch} {z : Bool}  (k4 : Nat → Int32 → Int32 → Int32 → hb_M → Option (Int32 × hb_M)) (hk4 : ∀ (x0 : Nat) (x1 : Int32) (x2 : Int32) (x3 : Int32) (σ : hb_M) (r : (Int32 × hb_M)), k4 x0 x1 x2 x3 σ = some r → hb_T G l z mX9_depthOf 0 0 0 4 [(0, .ref x0), (1, .int x1), (2, .int x2), (3, .int x3)] [] σ (.inl (some (.int r.1)), r.2))  {x0 : Nat} {x1 : Int32} {x3 : Int32} {s0 : Int32} {s1 : Int32} {σ : hb_M} {r : (Int32 × hb_M)} (h : f_X9_depthOf_b31 k4 x0 x1 x3 s0 s1 σ = some r) : hb_T G l z mX9_depthOf 0 0 0 31 [(0, .ref x0), (1, .int x1), (3, .int x3)] [.int s1, .int s0] σ (.inl (some (.int r.1)), r.2) := by
  unfold f_X9_depthOf_b31 at h
  refine hs_iadd dX9_depthOf_31 ?_
  refine hs_istore_n (lv' := [(2, .int (s0 + s1)), (0, .ref x0), (1, .int x1), (3, .int x3)]) dX9_depthOf_32 (by decide) rfl ?_
  refine hs_iinc2 (k := (1 : Int32)) (lv' := [(3, .int (x3 + (1 : Int32))), (2, .int (s0 + s1)), (0, .ref x0), (1, .int x1)]) dX9_depthOf_33 (by decide) 3 rfl (by decide) rfl ?_
  refine hs_goto (tgt := 4) dX9_depthOf_36 (by decide) ?_
  refine hs_sub (lv' := [(0, .ref x0), (1, .int x1), (2, .int (s0 + s1)), (3, .int (x3 + (1 : Int32)))]) [2, 3, 1, 0] rfl ?_
  exact hk4 _ _ _ _ _ _ h
set_option maxHeartbeats 4000000 in
set_option maxRecDepth 20000 in
theorem c_X9_depthOf_b4 {G : hb_G} {l : Launch} {z : Bool} : ∀ (n : Nat) (x0 : Nat) (x1 : Int32) (x2 : Int32) (x3 : Int32) (σ : hb_M) (r : (Int32 × hb_M)), f_X9_depthOf_b4 n x0 x1 x2 x3 σ = some r → hb_T G l z mX9_depthOf 0 0 0 4 [(0, .ref x0), (1, .int x1), (2, .int x2), (3, .int x3)] [] σ (.inl (some (.int r.1)), r.2) := by
  intro n
  induction n with
  | zero =>
    intro x0 x1 x2 x3 σ r h
    cases h
  | succ n ih =>
    intro x0 x1 x2 x3 σ r h
    rw [f_X9_depthOf_b4] at h
    refine hs_iload_n dX9_depthOf_4 3 rfl ?_
    refine hs_bipush (v := (40 : Int32)) dX9_depthOf_5 (by decide) ?_
    refine hs_icmp_ge (tgt := 39) dX9_depthOf_7 (by decide) (fun hc1 => ?_) (fun hc1 => ?_)
    · rw [if_pos hc1] at h
      refine hs_iload_n dX9_depthOf_39 2 rfl ?_
      obtain rfl := Option.some.inj h
      exact hs_ireturn dX9_depthOf_40 rfl (by rfl) (fun _ => rfl)
    · rw [if_neg hc1] at h
      refine hs_iload_n dX9_depthOf_10 2 rfl ?_
      refine hs_aload_n dX9_depthOf_11 0 rfl ?_
      obtain ⟨r2, h2, h⟩ := hb_bind h
      refine hs_getR dX9_depthOf_12 lkX9_31 rfl h2 ?_
      refine hs_iload_n dX9_depthOf_15 3 rfl ?_
      obtain ⟨r3, h3, h⟩ := hb_bind h
      refine hs_lald dX9_depthOf_16 h3 ?_
      refine hs_iload_n dX9_depthOf_17 1 rfl ?_
      refine hs_lshr dX9_depthOf_18 ?_
      refine hs_lconst (v := (1 : Int64)) dX9_depthOf_19 (by decide) ?_
      refine hs_land dX9_depthOf_20 ?_
      refine hs_lconst (v := (1 : Int64)) dX9_depthOf_21 (by decide) ?_
      refine hs_lcmp dX9_depthOf_22 ?_
      refine hs_if_ne (tgt := 30) dX9_depthOf_23 (by decide) (fun hc4 => ?_) (fun hc4 => ?_)
      · rw [if_neg hc4] at h
        refine hs_iconst (v := (0 : Int32)) dX9_depthOf_30 (by decide) ?_
        refine hs_sub (lv' := [(0, .ref x0), (1, .int x1), (3, .int x3)]) [0, 1, 3] rfl ?_
        exact c_X9_depthOf_b31 (f_X9_depthOf_b4 n) ih h
      · rw [if_pos hc4] at h
        refine hs_iconst (v := (1 : Int32)) dX9_depthOf_26 (by decide) ?_
        refine hs_goto (tgt := 31) dX9_depthOf_27 (by decide) ?_
        refine hs_sub (lv' := [(0, .ref x0), (1, .int x1), (3, .int x3)]) [0, 1, 3] rfl ?_
        exact c_X9_depthOf_b31 (f_X9_depthOf_b4 n) ih h
set_option maxHeartbeats 4000000 in
set_option maxRecDepth 20000 in
theorem c_X9_depthOf {G : hb_G} {l : Launch} {z : Bool} {x0 : Nat} {x1 : Int32} {σ : hb_M} {r : (Int32 × hb_M)} (h : f_X9_depthOf x0 x1 σ = some r) : hb_Call G l z 0 0 0 mX9_depthOf [.ref x0, .int x1] σ (.inl (some (.int r.1)), r.2) := by
  refine hb_met (by decide) (Nat.le_of_ble_eq_true rfl) ?_
  unfold f_X9_depthOf at h
  refine hs_iconst (v := (-1 : Int32)) dX9_depthOf_0 (by decide) ?_
  refine hs_istore_n (lv' := [(2, .int (-1 : Int32)), (0, .ref x0), (1, .int x1)]) dX9_depthOf_1 (by decide) rfl ?_
  refine hs_iconst (v := (0 : Int32)) dX9_depthOf_2 (by decide) ?_
  refine hs_istore_n (lv' := [(3, .int (0 : Int32)), (2, .int (-1 : Int32)), (0, .ref x0), (1, .int x1)]) dX9_depthOf_3 (by decide) rfl ?_
  refine hs_sub (lv' := [(0, .ref x0), (1, .int x1), (2, .int (-1 : Int32)), (3, .int (0 : Int32))]) [2, 3, 1, 0] rfl ?_
  exact c_X9_depthOf_b4 hb_FU _ _ _ _ _ _ h
def mX9_immediate : hb_Y := (yX9_immediate, cX9_immediate, 4, (some .int), [], false)
theorem okX9_immediate : hb_okV mX9_immediate 1 := ⟨⟨hb_w 11 (by decide +kernel) (by decide +kernel), hb_w 1641 (by decide +kernel) (by decide +kernel), ⟨by decide +kernel, by decide +kernel, by decide +kernel⟩, by decide⟩, hb_w 1640 (by decide +kernel) (by decide +kernel), hb_wp (q := (yX9_immediate, 29)) 63 (by decide +kernel) (by decide +kernel)⟩
set_option maxHeartbeats 4000000 in
set_option maxRecDepth 20000 in
theorem c_X9_immediate_b55 {G : hb_G} {l : Launch} {z : Bool}  (k4 : Nat → Int32 → Int32 → Int32 → hb_M → Option (Int32 × hb_M)) (hk4 : ∀ (x0 : Nat) (x1 : Int32) (x2 : Int32) (x3 : Int32) (σ : hb_M) (r : (Int32 × hb_M)), k4 x0 x1 x2 x3 σ = some r → hb_T G l z mX9_immediate 1 0 0 4 [(0, .ref x0), (1, .int x1), (2, .int x2), (3, .int x3)] [] σ (.inl (some (.int r.1)), r.2))  {x0 : Nat} {x1 : Int32} {x2 : Int32} {x3 : Int32} {σ : hb_M} {r : (Int32 × hb_M)} (h : f_X9_immediate_b55 k4 x0 x1 x2 x3 σ = some r) : hb_T G l z mX9_immediate 1 0 0 55 [(0, .ref x0), (1, .int x1), (2, .int x2), (3, .int x3)] [] σ (.inl (some (.int r.1)), r.2) := by
  unfold f_X9_immediate_b55 at h
  refine hs_iinc2 (k := (1 : Int32)) (lv' := [(3, .int (x3 + (1 : Int32))), (0, .ref x0), (1, .int x1), (2, .int x2)]) dX9_immediate_55 (by decide) 3 rfl (by decide) rfl ?_
  refine hs_goto (tgt := 4) dX9_immediate_58 (by decide) ?_
  refine hs_sub (lv' := [(0, .ref x0), (1, .int x1), (2, .int x2), (3, .int (x3 + (1 : Int32)))]) [1, 2, 3, 0] rfl ?_
  exact hk4 _ _ _ _ _ _ h
set_option maxHeartbeats 4000000 in
set_option maxRecDepth 20000 in
theorem c_X9_immediate_b4 {G : hb_G} {l : Launch} {z : Bool} : ∀ (n : Nat) (x0 : Nat) (x1 : Int32) (x2 : Int32) (x3 : Int32) (σ : hb_M) (r : (Int32 × hb_M)), f_X9_immediate_b4 n x0 x1 x2 x3 σ = some r → hb_T G l z mX9_immediate 1 0 0 4 [(0, .ref x0), (1, .int x1), (2, .int x2), (3, .int x3)] [] σ (.inl (some (.int r.1)), r.2) := by
  intro n
  induction n with
  | zero =>
    intro x0 x1 x2 x3 σ r h
    cases h
  | succ n ih =>
    intro x0 x1 x2 x3 σ r h
    rw [f_X9_immediate_b4] at h
    refine hs_iload_n dX9_immediate_4 3 rfl ?_
    refine hs_bipush (v := (40 : Int32)) dX9_immediate_5 (by decide) ?_
    refine hs_icmp_ge (tgt := 61) dX9_immediate_7 (by decide) (fun hc1 => ?_) (fun hc1 => ?_)
    · rw [if_pos hc1] at h
      refine hs_iload_n dX9_immediate_61 2 rfl ?_
      obtain rfl := Option.some.inj h
      exact hs_ireturn dX9_immediate_62 rfl (by rfl) (fun _ => rfl)
    · rw [if_neg hc1] at h
      refine hs_aload_n dX9_immediate_10 0 rfl ?_
      refine hs_iload_n dX9_immediate_11 1 rfl ?_
      obtain ⟨r2, h2, h⟩ := hb_bind h
      obtain ⟨h2, nf2, hb2⟩ := hb_on_at h2
      refine hs_callVi (μ' := mX9_isReached) (mc := 0) (ms := 0) (rc := 0) (rs := 0) (As := [.int x1]) (rest := []) (ci := 9) dX9_immediate_12 lmX9_181 okX9_isReached rfl (by decide) rfl (Nat.le_of_ble_eq_true rfl) rfl hb2 (c_X9_isReached h2) ?_
      refine hs_if_eq (tgt := 61) dX9_immediate_15 (by decide) (fun hc3 => ?_) (fun hc3 => ?_)
      · rw [if_pos hc3] at h
        refine hs_iload_n dX9_immediate_61 2 rfl ?_
        obtain rfl := Option.some.inj h
        exact hs_ireturn dX9_immediate_62 rfl (by rfl) (fun _ => rfl)
      · rw [if_neg hc3] at h
        refine hs_iload_n dX9_immediate_18 3 rfl ?_
        refine hs_iload_n dX9_immediate_19 1 rfl ?_
        refine hs_icmp_eq (tgt := 55) dX9_immediate_20 (by decide) (fun hc4 => ?_) (fun hc4 => ?_)
        · rw [if_pos hc4] at h
          refine hs_sub (lv' := [(0, .ref x0), (1, .int x1), (2, .int x2), (3, .int x3)]) [0, 1, 2, 3] rfl ?_
          exact c_X9_immediate_b55 (f_X9_immediate_b4 n) ih h
        · rw [if_neg hc4] at h
          refine hs_aload_n dX9_immediate_23 0 rfl ?_
          obtain ⟨r5, h5, h⟩ := hb_bind h
          refine hs_getR dX9_immediate_24 lkX9_31 rfl h5 ?_
          refine hs_iload_n dX9_immediate_27 3 rfl ?_
          obtain ⟨r6, h6, h⟩ := hb_bind h
          refine hs_lald dX9_immediate_28 h6 ?_
          refine hs_iload_n dX9_immediate_29 1 rfl ?_
          refine hs_lshr dX9_immediate_30 ?_
          refine hs_lconst (v := (1 : Int64)) dX9_immediate_31 (by decide) ?_
          refine hs_land dX9_immediate_32 ?_
          refine hs_lconst (v := (1 : Int64)) dX9_immediate_33 (by decide) ?_
          refine hs_lcmp dX9_immediate_34 ?_
          refine hs_if_ne (tgt := 55) dX9_immediate_35 (by decide) (fun hc7 => ?_) (fun hc7 => ?_)
          · rw [if_neg hc7] at h
            refine hs_sub (lv' := [(0, .ref x0), (1, .int x1), (2, .int x2), (3, .int x3)]) [0, 1, 2, 3] rfl ?_
            exact c_X9_immediate_b55 (f_X9_immediate_b4 n) ih h
          · rw [if_pos hc7] at h
            refine hs_aload_n dX9_immediate_38 0 rfl ?_
            refine hs_iload_n dX9_immediate_39 3 rfl ?_
            obtain ⟨r8, h8, h⟩ := hb_bind h
            obtain ⟨h8, nf8, hb8⟩ := hb_on_at h8
            refine hs_callVi (μ' := mX9_depthOf) (mc := 0) (ms := 0) (rc := 0) (rs := 0) (As := [.int x3]) (rest := []) (ci := 9) dX9_immediate_40 lmX9_184 okX9_depthOf rfl (by decide) rfl (Nat.le_of_ble_eq_true rfl) rfl hb8 (c_X9_depthOf h8) ?_
            refine hs_aload_n dX9_immediate_43 0 rfl ?_
            refine hs_iload_n dX9_immediate_44 1 rfl ?_
            obtain ⟨r9, h9, h⟩ := hb_bind h
            obtain ⟨h9, nf9, hb9⟩ := hb_on_at h9
            refine hs_callVi (μ' := mX9_depthOf) (mc := 0) (ms := 0) (rc := 0) (rs := 0) (As := [.int x1]) (rest := [.int r8.1]) (ci := 9) dX9_immediate_45 lmX9_184 okX9_depthOf rfl (by decide) rfl (Nat.le_of_ble_eq_true rfl) rfl hb9 (c_X9_depthOf h9) ?_
            refine hs_iconst (v := (1 : Int32)) dX9_immediate_48 (by decide) ?_
            refine hs_isub dX9_immediate_49 ?_
            refine hs_icmp_ne (tgt := 55) dX9_immediate_50 (by decide) (fun hc10 => ?_) (fun hc10 => ?_)
            · rw [if_neg hc10] at h
              refine hs_sub (lv' := [(0, .ref x0), (1, .int x1), (2, .int x2), (3, .int x3)]) [0, 1, 2, 3] rfl ?_
              exact c_X9_immediate_b55 (f_X9_immediate_b4 n) ih h
            · rw [if_pos hc10] at h
              refine hs_iload_n dX9_immediate_53 3 rfl ?_
              refine hs_istore_n (lv' := [(2, .int x3), (0, .ref x0), (1, .int x1), (3, .int x3)]) dX9_immediate_54 (by decide) rfl ?_
              refine hs_sub (lv' := [(0, .ref x0), (1, .int x1), (2, .int x3), (3, .int x3)]) [1, 2, 0, 3] rfl ?_
              exact c_X9_immediate_b55 (f_X9_immediate_b4 n) ih h
set_option maxHeartbeats 4000000 in
set_option maxRecDepth 20000 in
theorem c_X9_immediate {G : hb_G} {l : Launch} {z : Bool} {x0 : Nat} {x1 : Int32} {σ : hb_M} {r : (Int32 × hb_M)} (h : f_X9_immediate x0 x1 σ = some r) : hb_Call G l z 1 0 0 mX9_immediate [.ref x0, .int x1] σ (.inl (some (.int r.1)), r.2) := by
  refine hb_met (by decide) (Nat.le_of_ble_eq_true rfl) ?_
  unfold f_X9_immediate at h
  refine hs_iconst (v := (-1 : Int32)) dX9_immediate_0 (by decide) ?_
  refine hs_istore_n (lv' := [(2, .int (-1 : Int32)), (0, .ref x0), (1, .int x1)]) dX9_immediate_1 (by decide) rfl ?_
  refine hs_iconst (v := (0 : Int32)) dX9_immediate_2 (by decide) ?_
  refine hs_istore_n (lv' := [(3, .int (0 : Int32)), (2, .int (-1 : Int32)), (0, .ref x0), (1, .int x1)]) dX9_immediate_3 (by decide) rfl ?_
  refine hs_sub (lv' := [(0, .ref x0), (1, .int x1), (2, .int (-1 : Int32)), (3, .int (0 : Int32))]) [2, 3, 1, 0] rfl ?_
  exact c_X9_immediate_b4 hb_FU _ _ _ _ _ _ h
def mX9_laysFar : hb_Y := (yX9_laysFar, cX9_laysFar, 9, none, [], false)
theorem okX9_laysFar : hb_okV mX9_laysFar 0 := ⟨⟨hb_w 11 (by decide +kernel) (by decide +kernel), hb_w 1618 (by decide +kernel) (by decide +kernel), ⟨by decide +kernel, by decide +kernel, by decide +kernel⟩, by decide⟩, hb_w 1617 (by decide +kernel) (by decide +kernel), hb_wp (q := (yX9_laysFar, 29)) 61 (by decide +kernel) (by decide +kernel)⟩
set_option maxHeartbeats 4000000 in
set_option maxRecDepth 20000 in
theorem c_X9_laysFar_b122 {G : hb_G} {l : Launch} {z : Bool}  (k66 : Nat → Int64 → Int64 → Int32 → hb_M → Option hb_M) (hk66 : ∀ (x0 : Nat) (x1 : Int64) (x3 : Int64) (x5 : Int32) (σ : hb_M) (r : hb_M), k66 x0 x1 x3 x5 σ = some r → hb_T G l z mX9_laysFar 2 0 0 66 [(0, .ref x0), (1, .long x1), (3, .long x3), (5, .int x5)] [] σ (.inl none, r)) (k82 : Nat → Int64 → Int64 → Int32 → Int64 → Int32 → hb_M → Option hb_M) (hk82 : ∀ (x0 : Nat) (x1 : Int64) (x3 : Int64) (x5 : Int32) (x6 : Int64) (x8 : Int32) (σ : hb_M) (r : hb_M), k82 x0 x1 x3 x5 x6 x8 σ = some r → hb_T G l z mX9_laysFar 2 0 0 82 [(0, .ref x0), (1, .long x1), (3, .long x3), (5, .int x5), (6, .long x6), (8, .int x8)] [] σ (.inl none, r))  {x0 : Nat} {x1 : Int64} {x3 : Int64} {x5 : Int32} {x6 : Int64} {x8 : Int32} {σ : hb_M} {r : hb_M} (h : f_X9_laysFar_b122 k66 k82 x0 x1 x3 x5 x6 x8 σ = some r) : hb_T G l z mX9_laysFar 2 0 0 122 [(0, .ref x0), (1, .long x1), (3, .long x3), (5, .int x5), (6, .long x6), (8, .int x8)] [] σ (.inl none, r) := by
  unfold f_X9_laysFar_b122 at h
  refine hs_iinc2 (k := (1 : Int32)) (lv' := [(8, .int (x8 + (1 : Int32))), (0, .ref x0), (1, .long x1), (3, .long x3), (5, .int x5), (6, .long x6)]) dX9_laysFar_122 (by decide) 5 rfl (by decide) rfl ?_
  refine hs_goto (tgt := 82) dX9_laysFar_125 (by decide) ?_
  refine hs_sub (lv' := [(0, .ref x0), (1, .long x1), (3, .long x3), (5, .int x5), (6, .long x6), (8, .int (x8 + (1 : Int32)))]) [1, 2, 3, 4, 5, 0] rfl ?_
  exact hk82 _ _ _ _ _ _ _ _ h
set_option maxHeartbeats 4000000 in
set_option maxRecDepth 20000 in
theorem c_X9_laysFar_b82 {G : hb_G} {l : Launch} {z : Bool}  (k66 : Nat → Int64 → Int64 → Int32 → hb_M → Option hb_M) (hk66 : ∀ (x0 : Nat) (x1 : Int64) (x3 : Int64) (x5 : Int32) (σ : hb_M) (r : hb_M), k66 x0 x1 x3 x5 σ = some r → hb_T G l z mX9_laysFar 2 0 0 66 [(0, .ref x0), (1, .long x1), (3, .long x3), (5, .int x5)] [] σ (.inl none, r)) : ∀ (n : Nat) (x0 : Nat) (x1 : Int64) (x3 : Int64) (x5 : Int32) (x6 : Int64) (x8 : Int32) (σ : hb_M) (r : hb_M), f_X9_laysFar_b82 k66 n x0 x1 x3 x5 x6 x8 σ = some r → hb_T G l z mX9_laysFar 2 0 0 82 [(0, .ref x0), (1, .long x1), (3, .long x3), (5, .int x5), (6, .long x6), (8, .int x8)] [] σ (.inl none, r) := by
  intro n
  induction n with
  | zero =>
    intro x0 x1 x3 x5 x6 x8 σ r h
    cases h
  | succ n ih =>
    intro x0 x1 x3 x5 x6 x8 σ r h
    rw [f_X9_laysFar_b82] at h
    refine hs_iload dX9_laysFar_82 5 rfl ?_
    refine hs_bipush (v := (40 : Int32)) dX9_laysFar_84 (by decide) ?_
    refine hs_icmp_ge (tgt := 128) dX9_laysFar_86 (by decide) (fun hc1 => ?_) (fun hc1 => ?_)
    · rw [if_pos hc1] at h
      refine hs_lload dX9_laysFar_128 4 rfl ?_
      refine hs_lload_n dX9_laysFar_130 1 rfl ?_
      refine hs_ldc2 (v := (-1 : Int64)) dX9_laysFar_131 wd_1558 ?_
      refine hs_lxor dX9_laysFar_134 ?_
      refine hs_land dX9_laysFar_135 ?_
      refine hs_lstore_n (lv' := [(3, .long (x6 &&& (x1 ^^^ (-1 : Int64)))), (0, .ref x0), (1, .long x1), (5, .int x5), (6, .long x6), (8, .int x8)]) dX9_laysFar_136 (by decide) rfl ?_
      refine hs_iinc2 (k := (1 : Int32)) (lv' := [(5, .int (x5 + (1 : Int32))), (3, .long (x6 &&& (x1 ^^^ (-1 : Int64)))), (0, .ref x0), (1, .long x1), (6, .long x6), (8, .int x8)]) dX9_laysFar_137 (by decide) 3 rfl (by decide) rfl ?_
      refine hs_goto (tgt := 66) dX9_laysFar_140 (by decide) ?_
      refine hs_sub (lv' := [(0, .ref x0), (1, .long x1), (3, .long (x6 &&& (x1 ^^^ (-1 : Int64)))), (5, .int (x5 + (1 : Int32)))]) [2, 3, 1, 0] rfl ?_
      exact hk66 _ _ _ _ _ _ h
    · rw [if_neg hc1] at h
      refine hs_lload_n dX9_laysFar_89 2 rfl ?_
      refine hs_iload dX9_laysFar_90 5 rfl ?_
      refine hs_lshr dX9_laysFar_92 ?_
      refine hs_lconst (v := (1 : Int64)) dX9_laysFar_93 (by decide) ?_
      refine hs_land dX9_laysFar_94 ?_
      refine hs_lconst (v := (1 : Int64)) dX9_laysFar_95 (by decide) ?_
      refine hs_lcmp dX9_laysFar_96 ?_
      refine hs_if_ne (tgt := 122) dX9_laysFar_97 (by decide) (fun hc2 => ?_) (fun hc2 => ?_)
      · rw [if_neg hc2] at h
        refine hs_sub (lv' := [(0, .ref x0), (1, .long x1), (3, .long x3), (5, .int x5), (6, .long x6), (8, .int x8)]) [0, 1, 2, 3, 4, 5] rfl ?_
        exact c_X9_laysFar_b122 k66 hk66 (f_X9_laysFar_b82 k66 n) ih h
      · rw [if_pos hc2] at h
        refine hs_aload_n dX9_laysFar_100 0 rfl ?_
        obtain ⟨r3, h3, h⟩ := hb_bind h
        refine hs_getR dX9_laysFar_101 lkX9_35 rfl h3 ?_
        refine hs_iload dX9_laysFar_104 5 rfl ?_
        refine hs_iload dX9_laysFar_106 3 rfl ?_
        obtain ⟨r4, h4, h⟩ := hb_bind h
        refine hs_iast dX9_laysFar_108 h4 ?_
        refine hs_lload dX9_laysFar_109 4 rfl ?_
        refine hs_aload_n dX9_laysFar_111 0 rfl ?_
        refine hs_iload dX9_laysFar_112 5 rfl ?_
        refine hs_iconst (v := (-1 : Int32)) dX9_laysFar_114 (by decide) ?_
        refine hs_iconst (v := (-1 : Int32)) dX9_laysFar_115 (by decide) ?_
        obtain ⟨r5, h5, h⟩ := hb_bind h
        obtain ⟨h5, nf5, hb5⟩ := hb_on_at h5
        refine hs_callVl (μ' := mX9_refersTo) (mc := 0) (ms := 0) (rc := 0) (rs := 0) (As := [.int x8, .int (-1 : Int32), .int (-1 : Int32)]) (rest := [.long x6]) (ci := 9) dX9_laysFar_116 lmX9_174 okX9_refersTo rfl (by decide) rfl (Nat.le_of_ble_eq_true rfl) rfl hb5 (c_X9_refersTo h5) ?_
        refine hs_lor dX9_laysFar_119 ?_
        refine hs_lstore (lv' := [(6, .long (x6 ||| r5.1)), (0, .ref x0), (1, .long x1), (3, .long x3), (5, .int x5), (8, .int x8)]) dX9_laysFar_120 (by decide) rfl ?_
        refine hs_sub (lv' := [(0, .ref x0), (1, .long x1), (3, .long x3), (5, .int x5), (6, .long (x6 ||| r5.1)), (8, .int x8)]) [1, 2, 3, 4, 0, 5] rfl ?_
        exact c_X9_laysFar_b122 k66 hk66 (f_X9_laysFar_b82 k66 n) ih h
set_option maxHeartbeats 4000000 in
set_option maxRecDepth 20000 in
theorem c_X9_laysFar_b66 {G : hb_G} {l : Launch} {z : Bool} : ∀ (n : Nat) (x0 : Nat) (x1 : Int64) (x3 : Int64) (x5 : Int32) (σ : hb_M) (r : hb_M), f_X9_laysFar_b66 n x0 x1 x3 x5 σ = some r → hb_T G l z mX9_laysFar 2 0 0 66 [(0, .ref x0), (1, .long x1), (3, .long x3), (5, .int x5)] [] σ (.inl none, r) := by
  intro n
  induction n with
  | zero =>
    intro x0 x1 x3 x5 σ r h
    cases h
  | succ n ih =>
    intro x0 x1 x3 x5 σ r h
    rw [f_X9_laysFar_b66] at h
    refine hs_lload_n dX9_laysFar_66 2 rfl ?_
    refine hs_lconst (v := (0 : Int64)) dX9_laysFar_67 (by decide) ?_
    refine hs_lcmp dX9_laysFar_68 ?_
    refine hs_if_eq (tgt := 143) dX9_laysFar_69 (by decide) (fun hc1 => ?_) (fun hc1 => ?_)
    · rw [if_pos hc1] at h
      obtain rfl := Option.some.inj h
      exact hs_return dX9_laysFar_143 rfl (fun _ => rfl)
    · rw [if_neg hc1] at h
      refine hs_lload_n dX9_laysFar_72 1 rfl ?_
      refine hs_lload_n dX9_laysFar_73 2 rfl ?_
      refine hs_lor dX9_laysFar_74 ?_
      refine hs_lstore_n (lv' := [(1, .long (x1 ||| x3)), (0, .ref x0), (3, .long x3), (5, .int x5)]) dX9_laysFar_75 (by decide) rfl ?_
      refine hs_lconst (v := (0 : Int64)) dX9_laysFar_76 (by decide) ?_
      refine hs_lstore (lv' := [(6, .long (0 : Int64)), (1, .long (x1 ||| x3)), (0, .ref x0), (3, .long x3), (5, .int x5)]) dX9_laysFar_77 (by decide) rfl ?_
      refine hs_iconst (v := (0 : Int32)) dX9_laysFar_79 (by decide) ?_
      refine hs_istore (lv' := [(8, .int (0 : Int32)), (6, .long (0 : Int64)), (1, .long (x1 ||| x3)), (0, .ref x0), (3, .long x3), (5, .int x5)]) dX9_laysFar_80 (by decide) rfl ?_
      refine hs_sub (lv' := [(0, .ref x0), (1, .long (x1 ||| x3)), (3, .long x3), (5, .int x5), (6, .long (0 : Int64)), (8, .int (0 : Int32))]) [3, 2, 4, 5, 1, 0] rfl ?_
      exact c_X9_laysFar_b82 (f_X9_laysFar_b66 n) ih hb_FU _ _ _ _ _ _ _ _ h
set_option maxHeartbeats 4000000 in
set_option maxRecDepth 20000 in
theorem c_X9_laysFar_b55 {G : hb_G} {l : Launch} {z : Bool}  (k7 : Nat → Int64 → Int64 → Int32 → hb_M → Option hb_M) (hk7 : ∀ (x0 : Nat) (x1 : Int64) (x3 : Int64) (x5 : Int32) (σ : hb_M) (r : hb_M), k7 x0 x1 x3 x5 σ = some r → hb_T G l z mX9_laysFar 2 0 0 7 [(0, .ref x0), (1, .long x1), (3, .long x3), (5, .int x5)] [] σ (.inl none, r))  {x0 : Nat} {x1 : Int64} {x5 : Int32} {s0 : Int64} {s1 : Int64} {σ : hb_M} {r : hb_M} (h : f_X9_laysFar_b55 k7 x0 x1 x5 s0 s1 σ = some r) : hb_T G l z mX9_laysFar 2 0 0 55 [(0, .ref x0), (1, .long x1), (5, .int x5)] [.long s1, .long s0] σ (.inl none, r) := by
  unfold f_X9_laysFar_b55 at h
  refine hs_lor dX9_laysFar_55 ?_
  refine hs_lstore_n (lv' := [(3, .long (s0 ||| s1)), (0, .ref x0), (1, .long x1), (5, .int x5)]) dX9_laysFar_56 (by decide) rfl ?_
  refine hs_iinc2 (k := (1 : Int32)) (lv' := [(5, .int (x5 + (1 : Int32))), (3, .long (s0 ||| s1)), (0, .ref x0), (1, .long x1)]) dX9_laysFar_57 (by decide) 3 rfl (by decide) rfl ?_
  refine hs_goto (tgt := 7) dX9_laysFar_60 (by decide) ?_
  refine hs_sub (lv' := [(0, .ref x0), (1, .long x1), (3, .long (s0 ||| s1)), (5, .int (x5 + (1 : Int32)))]) [2, 3, 1, 0] rfl ?_
  exact hk7 _ _ _ _ _ _ h
set_option maxHeartbeats 4000000 in
set_option maxRecDepth 20000 in
theorem c_X9_laysFar_b54 {G : hb_G} {l : Launch} {z : Bool}  (k7 : Nat → Int64 → Int64 → Int32 → hb_M → Option hb_M) (hk7 : ∀ (x0 : Nat) (x1 : Int64) (x3 : Int64) (x5 : Int32) (σ : hb_M) (r : hb_M), k7 x0 x1 x3 x5 σ = some r → hb_T G l z mX9_laysFar 2 0 0 7 [(0, .ref x0), (1, .long x1), (3, .long x3), (5, .int x5)] [] σ (.inl none, r))  {x0 : Nat} {x1 : Int64} {x5 : Int32} {s0 : Int64} {σ : hb_M} {r : hb_M} (h : f_X9_laysFar_b54 k7 x0 x1 x5 s0 σ = some r) : hb_T G l z mX9_laysFar 2 0 0 54 [(0, .ref x0), (1, .long x1), (5, .int x5)] [.long s0] σ (.inl none, r) := by
  unfold f_X9_laysFar_b54 at h
  refine hs_lconst (v := (0 : Int64)) dX9_laysFar_54 (by decide) ?_
  refine hs_sub (lv' := [(0, .ref x0), (1, .long x1), (5, .int x5)]) [0, 1, 2] rfl ?_
  exact c_X9_laysFar_b55 k7 hk7 h
set_option maxHeartbeats 4000000 in
set_option maxRecDepth 20000 in
theorem c_X9_laysFar_b7 {G : hb_G} {l : Launch} {z : Bool} : ∀ (n : Nat) (x0 : Nat) (x1 : Int64) (x3 : Int64) (x5 : Int32) (σ : hb_M) (r : hb_M), f_X9_laysFar_b7 n x0 x1 x3 x5 σ = some r → hb_T G l z mX9_laysFar 2 0 0 7 [(0, .ref x0), (1, .long x1), (3, .long x3), (5, .int x5)] [] σ (.inl none, r) := by
  intro n
  induction n with
  | zero =>
    intro x0 x1 x3 x5 σ r h
    cases h
  | succ n ih =>
    intro x0 x1 x3 x5 σ r h
    rw [f_X9_laysFar_b7] at h
    refine hs_iload dX9_laysFar_7 3 rfl ?_
    refine hs_bipush (v := (40 : Int32)) dX9_laysFar_9 (by decide) ?_
    refine hs_icmp_ge (tgt := 63) dX9_laysFar_11 (by decide) (fun hc1 => ?_) (fun hc1 => ?_)
    · rw [if_pos hc1] at h
      refine hs_iconst (v := (0 : Int32)) dX9_laysFar_63 (by decide) ?_
      refine hs_istore (lv' := [(5, .int (0 : Int32)), (0, .ref x0), (1, .long x1), (3, .long x3)]) dX9_laysFar_64 (by decide) rfl ?_
      refine hs_sub (lv' := [(0, .ref x0), (1, .long x1), (3, .long x3), (5, .int (0 : Int32))]) [1, 2, 3, 0] rfl ?_
      exact c_X9_laysFar_b66 hb_FU _ _ _ _ _ _ h
    · rw [if_neg hc1] at h
      refine hs_aload_n dX9_laysFar_14 0 rfl ?_
      obtain ⟨r2, h2, h⟩ := hb_bind h
      refine hs_getR dX9_laysFar_15 lkX9_35 rfl h2 ?_
      refine hs_iload dX9_laysFar_18 3 rfl ?_
      refine hs_iconst (v := (-1 : Int32)) dX9_laysFar_20 (by decide) ?_
      obtain ⟨r3, h3, h⟩ := hb_bind h
      refine hs_iast dX9_laysFar_21 h3 ?_
      refine hs_lload_n dX9_laysFar_22 2 rfl ?_
      refine hs_aload_n dX9_laysFar_23 0 rfl ?_
      refine hs_iload dX9_laysFar_24 3 rfl ?_
      obtain ⟨r4, h4, h⟩ := hb_bind h
      obtain ⟨h4, nf4, hb4⟩ := hb_on_at h4
      refine hs_callVi (μ' := mX9_isObject) (mc := 0) (ms := 0) (rc := 0) (rs := 0) (As := [.int x5]) (rest := [.long x3]) (ci := 9) dX9_laysFar_26 lmX9_106 okX9_isObject rfl (by decide) rfl (Nat.le_of_ble_eq_true rfl) rfl hb4 (c_X9_isObject h4) ?_
      refine hs_if_eq (tgt := 54) dX9_laysFar_29 (by decide) (fun hc5 => ?_) (fun hc5 => ?_)
      · rw [if_pos hc5] at h
        refine hs_sub (lv' := [(0, .ref x0), (1, .long x1), (5, .int x5)]) [0, 1, 3] rfl ?_
        exact c_X9_laysFar_b54 (f_X9_laysFar_b7 n) ih h
      · rw [if_neg hc5] at h
        refine hs_aload_n dX9_laysFar_32 0 rfl ?_
        obtain ⟨r6, h6, h⟩ := hb_bind h
        refine hs_getR dX9_laysFar_33 lkX9_7 rfl h6 ?_
        refine hs_iload dX9_laysFar_36 3 rfl ?_
        obtain ⟨r7, h7, h⟩ := hb_bind h
        refine hs_callSi (μ' := mX9_at) (mc := 0) (ms := 0) (rc := 0) (rs := 0) (As := [.int x5]) (rest := [.ref r6, .long x3]) dX9_laysFar_38 lmX9_103 okX9_at rfl (by decide) rfl (Nat.le_of_ble_eq_true rfl) (c_X9_at h7) ?_
        refine hs_iconst (v := (4 : Int32)) dX9_laysFar_41 (by decide) ?_
        refine hs_iadd dX9_laysFar_42 ?_
        obtain ⟨r8, h8, h⟩ := hb_bind h
        refine hs_iald dX9_laysFar_43 h8 ?_
        refine hs_if_eq (tgt := 54) dX9_laysFar_44 (by decide) (fun hc9 => ?_) (fun hc9 => ?_)
        · rw [if_pos hc9] at h
          refine hs_sub (lv' := [(0, .ref x0), (1, .long x1), (5, .int x5)]) [0, 1, 3] rfl ?_
          exact c_X9_laysFar_b54 (f_X9_laysFar_b7 n) ih h
        · rw [if_neg hc9] at h
          refine hs_lconst (v := (1 : Int64)) dX9_laysFar_47 (by decide) ?_
          refine hs_iload dX9_laysFar_48 3 rfl ?_
          refine hs_lshl dX9_laysFar_50 ?_
          refine hs_goto (tgt := 55) dX9_laysFar_51 (by decide) ?_
          refine hs_sub (lv' := [(0, .ref x0), (1, .long x1), (5, .int x5)]) [0, 1, 3] rfl ?_
          exact c_X9_laysFar_b55 (f_X9_laysFar_b7 n) ih h
set_option maxHeartbeats 4000000 in
set_option maxRecDepth 20000 in
theorem c_X9_laysFar {G : hb_G} {l : Launch} {z : Bool} {x0 : Nat} {σ : hb_M} {r : hb_M} (h : f_X9_laysFar x0 σ = some r) : hb_Call G l z 2 0 0 mX9_laysFar [.ref x0] σ (.inl none, r) := by
  refine hb_met (by decide) (Nat.le_of_ble_eq_true rfl) ?_
  unfold f_X9_laysFar at h
  refine hs_lconst (v := (0 : Int64)) dX9_laysFar_0 (by decide) ?_
  refine hs_lstore_n (lv' := [(1, .long (0 : Int64)), (0, .ref x0)]) dX9_laysFar_1 (by decide) rfl ?_
  refine hs_lconst (v := (0 : Int64)) dX9_laysFar_2 (by decide) ?_
  refine hs_lstore_n (lv' := [(3, .long (0 : Int64)), (1, .long (0 : Int64)), (0, .ref x0)]) dX9_laysFar_3 (by decide) rfl ?_
  refine hs_iconst (v := (0 : Int32)) dX9_laysFar_4 (by decide) ?_
  refine hs_istore (lv' := [(5, .int (0 : Int32)), (3, .long (0 : Int64)), (1, .long (0 : Int64)), (0, .ref x0)]) dX9_laysFar_5 (by decide) rfl ?_
  refine hs_sub (lv' := [(0, .ref x0), (1, .long (0 : Int64)), (3, .long (0 : Int64)), (5, .int (0 : Int32))]) [3, 2, 1, 0] rfl ?_
  exact c_X9_laysFar_b7 hb_FU _ _ _ _ _ _ h
def mX9_need : hb_Y := (yX9_need, cX9_need, 2, (some .int), [], false)
theorem okX9_need : hb_okV mX9_need 1 := ⟨⟨hb_w 11 (by decide +kernel) (by decide +kernel), hb_w 1614 (by decide +kernel) (by decide +kernel), ⟨by decide +kernel, by decide +kernel, by decide +kernel⟩, by decide⟩, hb_w 1613 (by decide +kernel) (by decide +kernel), hb_wp (q := (yX9_need, 29)) 60 (by decide +kernel) (by decide +kernel)⟩
set_option maxHeartbeats 4000000 in
set_option maxRecDepth 20000 in
theorem c_X9_need {G : hb_G} {l : Launch} {z : Bool} {x0 : Nat} {x1 : Int32} {σ : hb_M} {r : (Int32 × hb_M)} (h : f_X9_need x0 x1 σ = some r) : hb_Call G l z 0 0 0 mX9_need [.ref x0, .int x1] σ (.inl (some (.int r.1)), r.2) := by
  refine hb_met (by decide) (Nat.le_of_ble_eq_true rfl) ?_
  unfold f_X9_need at h
  refine hs_iload_n dX9_need_0 1 rfl ?_
  refine hs_if_eq (tgt := 8) dX9_need_1 (by decide) (fun hc1 => ?_) (fun hc1 => ?_)
  · rw [if_pos hc1] at h
    refine hs_iconst (v := (1 : Int32)) dX9_need_8 (by decide) ?_
    obtain rfl := Option.some.inj h
    exact hs_ireturn dX9_need_9 rfl (by rfl) (fun _ => rfl)
  · rw [if_neg hc1] at h
    refine hs_iconst (v := (0 : Int32)) dX9_need_4 (by decide) ?_
    refine hs_goto (tgt := 9) dX9_need_5 (by decide) ?_
    obtain rfl := Option.some.inj h
    exact hs_ireturn dX9_need_9 rfl (by rfl) (fun _ => rfl)
def mX9_distance : hb_Y := (yX9_distance, cX9_distance, 2, (some .int), [], false)
set_option maxHeartbeats 4000000 in
set_option maxRecDepth 20000 in
theorem c_X9_distance {G : hb_G} {l : Launch} {z : Bool} {x0 : Nat} {x1 : Int32} {σ : hb_M} {r : (Int32 × hb_M)} (h : f_X9_distance x0 x1 σ = some r) : hb_Call G l z 3 0 0 mX9_distance [.ref x0, .int x1] σ (.inl (some (.int r.1)), r.2) := by
  refine hb_met (by decide) (Nat.le_of_ble_eq_true rfl) ?_
  unfold f_X9_distance at h
  refine hs_aload_n dX9_distance_0 0 rfl ?_
  refine hs_aload_n dX9_distance_1 0 rfl ?_
  refine hs_aload_n dX9_distance_2 0 rfl ?_
  refine hs_iload_n dX9_distance_3 1 rfl ?_
  obtain ⟨r1, h1, h⟩ := hb_bind h
  obtain ⟨h1, nf1, hb1⟩ := hb_on_at h1
  refine hs_callVi (μ' := mX9_isObject) (mc := 0) (ms := 0) (rc := 0) (rs := 0) (As := [.int x1]) (rest := [.ref x0, .ref x0]) (ci := 9) dX9_distance_4 lmX9_106 okX9_isObject rfl (by decide) rfl (Nat.le_of_ble_eq_true rfl) rfl hb1 (c_X9_isObject h1) ?_
  obtain ⟨r2, h2, h⟩ := hb_bind h
  obtain ⟨h2, nf2, hb2⟩ := hb_on_at h2
  refine hs_callVi (μ' := mX9_need) (mc := 0) (ms := 0) (rc := 0) (rs := 0) (As := [.int r1.1]) (rest := [.ref x0]) (ci := 9) dX9_distance_7 lmX9_187 okX9_need rfl (by decide) rfl (Nat.le_of_ble_eq_true rfl) rfl hb2 (c_X9_need h2) ?_
  obtain ⟨r3, h3, h⟩ := hb_bind h
  obtain ⟨h3, nf3, hb3⟩ := hb_on_at h3
  refine hs_callVi (μ' := mX9_refused) (mc := 0) (ms := 0) (rc := 0) (rs := 0) (As := [.int r2.1]) (rest := []) (ci := 9) dX9_distance_10 lmX9_74 okX9_refused rfl (by decide) rfl (Nat.le_of_ble_eq_true rfl) rfl hb3 (c_X9_refused h3) ?_
  refine hs_if_eq (tgt := 18) dX9_distance_13 (by decide) (fun hc4 => ?_) (fun hc4 => ?_)
  · rw [if_pos hc4] at h
    refine hs_aload_n dX9_distance_18 0 rfl ?_
    obtain ⟨r5, h5, h⟩ := hb_bind h
    obtain ⟨h5, nf5, hb5⟩ := hb_on_at h5
    refine hs_callVv (μ' := mX9_laysFar) (mc := 0) (ms := 0) (rc := 0) (rs := 0) (As := []) (rest := []) (ci := 9) dX9_distance_19 lmX9_191 okX9_laysFar rfl (by decide) rfl (Nat.le_of_ble_eq_true rfl) rfl hb5 (c_X9_laysFar h5) ?_
    refine hs_aload_n dX9_distance_22 0 rfl ?_
    obtain ⟨r6, h6, h⟩ := hb_bind h
    refine hs_getR dX9_distance_23 lkX9_35 rfl h6 ?_
    refine hs_iload_n dX9_distance_26 1 rfl ?_
    obtain ⟨r7, h7, h⟩ := hb_bind h
    refine hs_iald dX9_distance_27 h7 ?_
    obtain rfl := Option.some.inj h
    exact hs_ireturn dX9_distance_28 rfl (by rfl) (fun _ => rfl)
  · rw [if_neg hc4] at h
    refine hs_iconst (v := (0 : Int32)) dX9_distance_16 (by decide) ?_
    obtain rfl := Option.some.inj h
    exact hs_ireturn dX9_distance_17 rfl (by rfl) (fun _ => rfl)
def mX9_first : hb_Y := (yX9_first, cX9_first, 3, (some .int), [], false)
theorem okX9_first : hb_okS mX9_first 1 := ⟨⟨hb_w 11 (by decide +kernel) (by decide +kernel), hb_w 1625 (by decide +kernel) (by decide +kernel), ⟨by decide +kernel, by decide +kernel, by decide +kernel⟩, by decide⟩, hb_w 1624 (by decide +kernel) (by decide +kernel)⟩
set_option maxHeartbeats 4000000 in
set_option maxRecDepth 20000 in
theorem c_X9_first_b2 {G : hb_G} {l : Launch} {z : Bool} : ∀ (n : Nat) (x0 : Int64) (x2 : Int32) (σ : hb_M) (r : (Int32 × hb_M)), f_X9_first_b2 n x0 x2 σ = some r → hb_T G l z mX9_first 0 0 0 2 [(0, .long x0), (2, .int x2)] [] σ (.inl (some (.int r.1)), r.2) := by
  intro n
  induction n with
  | zero =>
    intro x0 x2 σ r h
    cases h
  | succ n ih =>
    intro x0 x2 σ r h
    rw [f_X9_first_b2] at h
    refine hs_lload_n dX9_first_2 0 rfl ?_
    refine hs_iload_n dX9_first_3 1 rfl ?_
    refine hs_lshr dX9_first_4 ?_
    refine hs_lconst (v := (1 : Int64)) dX9_first_5 (by decide) ?_
    refine hs_land dX9_first_6 ?_
    refine hs_lconst (v := (0 : Int64)) dX9_first_7 (by decide) ?_
    refine hs_lcmp dX9_first_8 ?_
    refine hs_if_ne (tgt := 18) dX9_first_9 (by decide) (fun hc1 => ?_) (fun hc1 => ?_)
    · rw [if_neg hc1] at h
      refine hs_iload_n dX9_first_18 1 rfl ?_
      obtain rfl := Option.some.inj h
      exact hs_ireturn dX9_first_19 rfl (by rfl) (fun _ => rfl)
    · rw [if_pos hc1] at h
      refine hs_iinc2 (k := (1 : Int32)) (lv' := [(2, .int (x2 + (1 : Int32))), (0, .long x0)]) dX9_first_12 (by decide) 1 rfl (by decide) rfl ?_
      refine hs_goto (tgt := 2) dX9_first_15 (by decide) ?_
      refine hs_sub (lv' := [(0, .long x0), (2, .int (x2 + (1 : Int32)))]) [1, 0] rfl ?_
      exact ih _ _ _ _ h
set_option maxHeartbeats 4000000 in
set_option maxRecDepth 20000 in
theorem c_X9_first {G : hb_G} {l : Launch} {z : Bool} {x0 : Int64} {σ : hb_M} {r : (Int32 × hb_M)} (h : f_X9_first x0 σ = some r) : hb_Call G l z 0 0 0 mX9_first [.long x0] σ (.inl (some (.int r.1)), r.2) := by
  refine hb_met (by decide) (Nat.le_of_ble_eq_true rfl) ?_
  unfold f_X9_first at h
  refine hs_iconst (v := (0 : Int32)) dX9_first_0 (by decide) ?_
  refine hs_istore_n (lv' := [(2, .int (0 : Int32)), (0, .long x0)]) dX9_first_1 (by decide) rfl ?_
  refine hs_sub (lv' := [(0, .long x0), (2, .int (0 : Int32))]) [1, 0] rfl ?_
  exact c_X9_first_b2 hb_FU _ _ _ _ h
def mX9_pathAt : hb_Y := (yX9_pathAt, cX9_pathAt, 5, (some .int), [], false)
set_option maxHeartbeats 4000000 in
set_option maxRecDepth 20000 in
theorem c_X9_pathAt_b172 {G : hb_G} {l : Launch} {z : Bool} : ∀ (n : Nat) (x0 : Nat) (x2 : Int32) (x3 : Int32) (x4 : Int32) (σ : hb_M) (r : (Int32 × hb_M)), f_X9_pathAt_b172 n x0 x2 x3 x4 σ = some r → hb_T G l z mX9_pathAt 3 0 0 172 [(0, .ref x0), (2, .int x2), (3, .int x3), (4, .int x4)] [] σ (.inl (some (.int r.1)), r.2) := by
  intro n
  induction n with
  | zero =>
    intro x0 x2 x3 x4 σ r h
    cases h
  | succ n ih =>
    intro x0 x2 x3 x4 σ r h
    rw [f_X9_pathAt_b172] at h
    refine hs_iload dX9_pathAt_172 3 rfl ?_
    refine hs_iload_n dX9_pathAt_174 1 rfl ?_
    refine hs_icmp_gt (tgt := 203) dX9_pathAt_175 (by decide) (fun hc1 => ?_) (fun hc1 => ?_)
    · rw [if_pos hc1] at h
      refine hs_iload_n dX9_pathAt_203 2 rfl ?_
      obtain rfl := Option.some.inj h
      exact hs_ireturn dX9_pathAt_204 rfl (by rfl) (fun _ => rfl)
    · rw [if_neg hc1] at h
      refine hs_aload_n dX9_pathAt_178 0 rfl ?_
      refine hs_iload_n dX9_pathAt_179 2 rfl ?_
      refine hs_iconst (v := (-1 : Int32)) dX9_pathAt_180 (by decide) ?_
      refine hs_iconst (v := (-1 : Int32)) dX9_pathAt_181 (by decide) ?_
      obtain ⟨r2, h2, h⟩ := hb_bind h
      obtain ⟨h2, nf2, hb2⟩ := hb_on_at h2
      refine hs_callVl (μ' := mX9_refersTo) (mc := 0) (ms := 0) (rc := 0) (rs := 0) (As := [.int x3, .int (-1 : Int32), .int (-1 : Int32)]) (rest := []) (ci := 9) dX9_pathAt_182 lmX9_174 okX9_refersTo rfl (by decide) rfl (Nat.le_of_ble_eq_true rfl) rfl hb2 (c_X9_refersTo h2) ?_
      refine hs_aload_n dX9_pathAt_185 0 rfl ?_
      obtain ⟨r3, h3, h⟩ := hb_bind h
      refine hs_getR dX9_pathAt_186 lkX9_38 rfl h3 ?_
      refine hs_iload dX9_pathAt_189 3 rfl ?_
      obtain ⟨r4, h4, h⟩ := hb_bind h
      refine hs_lald dX9_pathAt_191 h4 ?_
      refine hs_land dX9_pathAt_192 ?_
      obtain ⟨r5, h5, h⟩ := hb_bind h
      refine hs_callSi (μ' := mX9_first) (mc := 0) (ms := 0) (rc := 0) (rs := 0) (As := [.long (r2.1 &&& r4)]) (rest := []) dX9_pathAt_193 lmX9_194 okX9_first rfl (by decide) rfl (Nat.le_of_ble_eq_true rfl) (c_X9_first h5) ?_
      refine hs_istore_n (lv' := [(3, .int r5.1), (0, .ref x0), (2, .int x2), (4, .int x4)]) dX9_pathAt_196 (by decide) rfl ?_
      refine hs_iinc2 (k := (1 : Int32)) (lv' := [(4, .int (x4 + (1 : Int32))), (3, .int r5.1), (0, .ref x0), (2, .int x2)]) dX9_pathAt_197 (by decide) 3 rfl (by decide) rfl ?_
      refine hs_goto (tgt := 172) dX9_pathAt_200 (by decide) ?_
      refine hs_sub (lv' := [(0, .ref x0), (2, .int x2), (3, .int r5.1), (4, .int (x4 + (1 : Int32)))]) [2, 3, 1, 0] rfl ?_
      exact ih _ _ _ _ _ _ h
set_option maxHeartbeats 4000000 in
set_option maxRecDepth 20000 in
theorem c_X9_pathAt_b147 {G : hb_G} {l : Launch} {z : Bool}  (k71 : Nat → Int32 → Int32 → hb_M → Option (Int32 × hb_M)) (hk71 : ∀ (x0 : Nat) (x2 : Int32) (x3 : Int32) (σ : hb_M) (r : (Int32 × hb_M)), k71 x0 x2 x3 σ = some r → hb_T G l z mX9_pathAt 3 0 0 71 [(0, .ref x0), (2, .int x2), (3, .int x3)] [] σ (.inl (some (.int r.1)), r.2)) (k85 : Nat → Int32 → Int32 → Int32 → hb_M → Option (Int32 × hb_M)) (hk85 : ∀ (x0 : Nat) (x2 : Int32) (x3 : Int32) (x4 : Int32) (σ : hb_M) (r : (Int32 × hb_M)), k85 x0 x2 x3 x4 σ = some r → hb_T G l z mX9_pathAt 3 0 0 85 [(0, .ref x0), (2, .int x2), (3, .int x3), (4, .int x4)] [] σ (.inl (some (.int r.1)), r.2))  {x0 : Nat} {x2 : Int32} {x3 : Int32} {x4 : Int32} {σ : hb_M} {r : (Int32 × hb_M)} (h : f_X9_pathAt_b147 k71 k85 x0 x2 x3 x4 σ = some r) : hb_T G l z mX9_pathAt 3 0 0 147 [(0, .ref x0), (2, .int x2), (3, .int x3), (4, .int x4)] [] σ (.inl (some (.int r.1)), r.2) := by
  unfold f_X9_pathAt_b147 at h
  refine hs_iinc2 (k := (1 : Int32)) (lv' := [(4, .int (x4 + (1 : Int32))), (0, .ref x0), (2, .int x2), (3, .int x3)]) dX9_pathAt_147 (by decide) 3 rfl (by decide) rfl ?_
  refine hs_goto (tgt := 85) dX9_pathAt_150 (by decide) ?_
  refine hs_sub (lv' := [(0, .ref x0), (2, .int x2), (3, .int x3), (4, .int (x4 + (1 : Int32)))]) [1, 2, 3, 0] rfl ?_
  exact hk85 _ _ _ _ _ _ h
set_option maxHeartbeats 4000000 in
set_option maxRecDepth 20000 in
theorem c_X9_pathAt_b85 {G : hb_G} {l : Launch} {z : Bool}  (k71 : Nat → Int32 → Int32 → hb_M → Option (Int32 × hb_M)) (hk71 : ∀ (x0 : Nat) (x2 : Int32) (x3 : Int32) (σ : hb_M) (r : (Int32 × hb_M)), k71 x0 x2 x3 σ = some r → hb_T G l z mX9_pathAt 3 0 0 71 [(0, .ref x0), (2, .int x2), (3, .int x3)] [] σ (.inl (some (.int r.1)), r.2)) : ∀ (n : Nat) (x0 : Nat) (x2 : Int32) (x3 : Int32) (x4 : Int32) (σ : hb_M) (r : (Int32 × hb_M)), f_X9_pathAt_b85 k71 n x0 x2 x3 x4 σ = some r → hb_T G l z mX9_pathAt 3 0 0 85 [(0, .ref x0), (2, .int x2), (3, .int x3), (4, .int x4)] [] σ (.inl (some (.int r.1)), r.2) := by
  intro n
  induction n with
  | zero =>
    intro x0 x2 x3 x4 σ r h
    cases h
  | succ n ih =>
    intro x0 x2 x3 x4 σ r h
    rw [f_X9_pathAt_b85] at h
    refine hs_iload dX9_pathAt_85 3 rfl ?_
    refine hs_bipush (v := (40 : Int32)) dX9_pathAt_87 (by decide) ?_
    refine hs_icmp_ge (tgt := 153) dX9_pathAt_89 (by decide) (fun hc1 => ?_) (fun hc1 => ?_)
    · rw [if_pos hc1] at h
      refine hs_iinc2 (k := (-1 : Int32)) (lv' := [(3, .int (x3 + (-1 : Int32))), (0, .ref x0), (2, .int x2), (4, .int x4)]) dX9_pathAt_153 (by decide) 2 rfl (by decide) rfl ?_
      refine hs_goto (tgt := 71) dX9_pathAt_156 (by decide) ?_
      refine hs_sub (lv' := [(0, .ref x0), (2, .int x2), (3, .int (x3 + (-1 : Int32)))]) [1, 2, 0] rfl ?_
      exact hk71 _ _ _ _ _ h
    · rw [if_neg hc1] at h
      refine hs_aload_n dX9_pathAt_92 0 rfl ?_
      refine hs_iload dX9_pathAt_93 3 rfl ?_
      obtain ⟨r2, h2, h⟩ := hb_bind h
      obtain ⟨h2, nf2, hb2⟩ := hb_on_at h2
      refine hs_callVi (μ' := mX9_isObject) (mc := 0) (ms := 0) (rc := 0) (rs := 0) (As := [.int x4]) (rest := []) (ci := 9) dX9_pathAt_95 lmX9_106 okX9_isObject rfl (by decide) rfl (Nat.le_of_ble_eq_true rfl) rfl hb2 (c_X9_isObject h2) ?_
      refine hs_if_eq (tgt := 147) dX9_pathAt_98 (by decide) (fun hc3 => ?_) (fun hc3 => ?_)
      · rw [if_pos hc3] at h
        refine hs_sub (lv' := [(0, .ref x0), (2, .int x2), (3, .int x3), (4, .int x4)]) [0, 1, 2, 3] rfl ?_
        exact c_X9_pathAt_b147 k71 hk71 (f_X9_pathAt_b85 k71 n) ih h
      · rw [if_neg hc3] at h
        refine hs_aload_n dX9_pathAt_101 0 rfl ?_
        obtain ⟨r4, h4, h⟩ := hb_bind h
        refine hs_getR dX9_pathAt_102 lkX9_35 rfl h4 ?_
        refine hs_iload dX9_pathAt_105 3 rfl ?_
        obtain ⟨r5, h5, h⟩ := hb_bind h
        refine hs_iald dX9_pathAt_107 h5 ?_
        refine hs_iload_n dX9_pathAt_108 2 rfl ?_
        refine hs_icmp_ne (tgt := 147) dX9_pathAt_109 (by decide) (fun hc6 => ?_) (fun hc6 => ?_)
        · rw [if_neg hc6] at h
          refine hs_sub (lv' := [(0, .ref x0), (2, .int x2), (3, .int x3), (4, .int x4)]) [0, 1, 2, 3] rfl ?_
          exact c_X9_pathAt_b147 k71 hk71 (f_X9_pathAt_b85 k71 n) ih h
        · rw [if_pos hc6] at h
          refine hs_aload_n dX9_pathAt_112 0 rfl ?_
          refine hs_iload dX9_pathAt_113 3 rfl ?_
          refine hs_iconst (v := (-1 : Int32)) dX9_pathAt_115 (by decide) ?_
          refine hs_iconst (v := (-1 : Int32)) dX9_pathAt_116 (by decide) ?_
          obtain ⟨r7, h7, h⟩ := hb_bind h
          obtain ⟨h7, nf7, hb7⟩ := hb_on_at h7
          refine hs_callVl (μ' := mX9_refersTo) (mc := 0) (ms := 0) (rc := 0) (rs := 0) (As := [.int x4, .int (-1 : Int32), .int (-1 : Int32)]) (rest := []) (ci := 9) dX9_pathAt_117 lmX9_174 okX9_refersTo rfl (by decide) rfl (Nat.le_of_ble_eq_true rfl) rfl hb7 (c_X9_refersTo h7) ?_
          refine hs_aload_n dX9_pathAt_120 0 rfl ?_
          obtain ⟨r8, h8, h⟩ := hb_bind h
          refine hs_getR dX9_pathAt_121 lkX9_38 rfl h8 ?_
          refine hs_iload_n dX9_pathAt_124 2 rfl ?_
          refine hs_iconst (v := (1 : Int32)) dX9_pathAt_125 (by decide) ?_
          refine hs_iadd dX9_pathAt_126 ?_
          obtain ⟨r9, h9, h⟩ := hb_bind h
          refine hs_lald dX9_pathAt_127 h9 ?_
          refine hs_land dX9_pathAt_128 ?_
          refine hs_lconst (v := (0 : Int64)) dX9_pathAt_129 (by decide) ?_
          refine hs_lcmp dX9_pathAt_130 ?_
          refine hs_if_eq (tgt := 147) dX9_pathAt_131 (by decide) (fun hc10 => ?_) (fun hc10 => ?_)
          · rw [if_pos hc10] at h
            refine hs_sub (lv' := [(0, .ref x0), (2, .int x2), (3, .int x3), (4, .int x4)]) [0, 1, 2, 3] rfl ?_
            exact c_X9_pathAt_b147 k71 hk71 (f_X9_pathAt_b85 k71 n) ih h
          · rw [if_neg hc10] at h
            refine hs_aload_n dX9_pathAt_134 0 rfl ?_
            obtain ⟨r11, h11, h⟩ := hb_bind h
            refine hs_getR dX9_pathAt_135 lkX9_38 rfl h11 ?_
            refine hs_iload_n dX9_pathAt_138 2 rfl ?_
            refine hs_dup2 dX9_pathAt_139 rfl rfl ?_
            obtain ⟨r12, h12, h⟩ := hb_bind h
            refine hs_lald dX9_pathAt_140 h12 ?_
            refine hs_lconst (v := (1 : Int64)) dX9_pathAt_141 (by decide) ?_
            refine hs_iload dX9_pathAt_142 3 rfl ?_
            refine hs_lshl dX9_pathAt_144 ?_
            refine hs_lor dX9_pathAt_145 ?_
            obtain ⟨r13, h13, h⟩ := hb_bind h
            refine hs_last dX9_pathAt_146 h13 ?_
            refine hs_sub (lv' := [(0, .ref x0), (2, .int x2), (3, .int x3), (4, .int x4)]) [0, 1, 2, 3] rfl ?_
            exact c_X9_pathAt_b147 k71 hk71 (f_X9_pathAt_b85 k71 n) ih h
set_option maxHeartbeats 4000000 in
set_option maxRecDepth 20000 in
theorem c_X9_pathAt_b71 {G : hb_G} {l : Launch} {z : Bool} : ∀ (n : Nat) (x0 : Nat) (x2 : Int32) (x3 : Int32) (σ : hb_M) (r : (Int32 × hb_M)), f_X9_pathAt_b71 n x0 x2 x3 σ = some r → hb_T G l z mX9_pathAt 3 0 0 71 [(0, .ref x0), (2, .int x2), (3, .int x3)] [] σ (.inl (some (.int r.1)), r.2) := by
  intro n
  induction n with
  | zero =>
    intro x0 x2 x3 σ r h
    cases h
  | succ n ih =>
    intro x0 x2 x3 σ r h
    rw [f_X9_pathAt_b71] at h
    refine hs_iload_n dX9_pathAt_71 2 rfl ?_
    refine hs_if_lt (tgt := 159) dX9_pathAt_72 (by decide) (fun hc1 => ?_) (fun hc1 => ?_)
    · rw [if_pos hc1] at h
      refine hs_aload_n dX9_pathAt_159 0 rfl ?_
      obtain ⟨r2, h2, h⟩ := hb_bind h
      refine hs_getR dX9_pathAt_160 lkX9_38 rfl h2 ?_
      refine hs_iconst (v := (0 : Int32)) dX9_pathAt_163 (by decide) ?_
      obtain ⟨r3, h3, h⟩ := hb_bind h
      refine hs_lald dX9_pathAt_164 h3 ?_
      obtain ⟨r4, h4, h⟩ := hb_bind h
      refine hs_callSi (μ' := mX9_first) (mc := 0) (ms := 0) (rc := 0) (rs := 0) (As := [.long r3]) (rest := []) dX9_pathAt_165 lmX9_194 okX9_first rfl (by decide) rfl (Nat.le_of_ble_eq_true rfl) (c_X9_first h4) ?_
      refine hs_istore_n (lv' := [(3, .int r4.1), (0, .ref x0), (2, .int x2)]) dX9_pathAt_168 (by decide) rfl ?_
      refine hs_iconst (v := (1 : Int32)) dX9_pathAt_169 (by decide) ?_
      refine hs_istore (lv' := [(4, .int (1 : Int32)), (3, .int r4.1), (0, .ref x0), (2, .int x2)]) dX9_pathAt_170 (by decide) rfl ?_
      refine hs_sub (lv' := [(0, .ref x0), (2, .int x2), (3, .int r4.1), (4, .int (1 : Int32))]) [2, 3, 1, 0] rfl ?_
      exact c_X9_pathAt_b172 hb_FU _ _ _ _ _ _ h
    · rw [if_neg hc1] at h
      refine hs_aload_n dX9_pathAt_75 0 rfl ?_
      obtain ⟨r5, h5, h⟩ := hb_bind h
      refine hs_getR dX9_pathAt_76 lkX9_38 rfl h5 ?_
      refine hs_iload_n dX9_pathAt_79 2 rfl ?_
      refine hs_lconst (v := (0 : Int64)) dX9_pathAt_80 (by decide) ?_
      obtain ⟨r6, h6, h⟩ := hb_bind h
      refine hs_last dX9_pathAt_81 h6 ?_
      refine hs_iconst (v := (0 : Int32)) dX9_pathAt_82 (by decide) ?_
      refine hs_istore (lv' := [(4, .int (0 : Int32)), (0, .ref x0), (2, .int x2), (3, .int x3)]) dX9_pathAt_83 (by decide) rfl ?_
      refine hs_sub (lv' := [(0, .ref x0), (2, .int x2), (3, .int x3), (4, .int (0 : Int32))]) [1, 2, 3, 0] rfl ?_
      exact c_X9_pathAt_b85 (f_X9_pathAt_b71 n) ih hb_FU _ _ _ _ _ _ h
set_option maxHeartbeats 4000000 in
set_option maxRecDepth 20000 in
theorem c_X9_pathAt {G : hb_G} {l : Launch} {z : Bool} {x0 : Nat} {x1 : Int32} {x2 : Int32} {σ : hb_M} {r : (Int32 × hb_M)} (h : f_X9_pathAt x0 x1 x2 σ = some r) : hb_Call G l z 3 0 0 mX9_pathAt [.ref x0, .int x1, .int x2] σ (.inl (some (.int r.1)), r.2) := by
  refine hb_met (by decide) (Nat.le_of_ble_eq_true rfl) ?_
  unfold f_X9_pathAt at h
  refine hs_aload_n dX9_pathAt_0 0 rfl ?_
  refine hs_aload_n dX9_pathAt_1 0 rfl ?_
  refine hs_aload_n dX9_pathAt_2 0 rfl ?_
  refine hs_iload_n dX9_pathAt_3 1 rfl ?_
  obtain ⟨r1, h1, h⟩ := hb_bind h
  obtain ⟨h1, nf1, hb1⟩ := hb_on_at h1
  refine hs_callVi (μ' := mX9_isObject) (mc := 0) (ms := 0) (rc := 0) (rs := 0) (As := [.int x1]) (rest := [.ref x0, .ref x0]) (ci := 9) dX9_pathAt_4 lmX9_106 okX9_isObject rfl (by decide) rfl (Nat.le_of_ble_eq_true rfl) rfl hb1 (c_X9_isObject h1) ?_
  obtain ⟨r2, h2, h⟩ := hb_bind h
  obtain ⟨h2, nf2, hb2⟩ := hb_on_at h2
  refine hs_callVi (μ' := mX9_need) (mc := 0) (ms := 0) (rc := 0) (rs := 0) (As := [.int r1.1]) (rest := [.ref x0]) (ci := 9) dX9_pathAt_7 lmX9_187 okX9_need rfl (by decide) rfl (Nat.le_of_ble_eq_true rfl) rfl hb2 (c_X9_need h2) ?_
  obtain ⟨r3, h3, h⟩ := hb_bind h
  obtain ⟨h3, nf3, hb3⟩ := hb_on_at h3
  refine hs_callVi (μ' := mX9_refused) (mc := 0) (ms := 0) (rc := 0) (rs := 0) (As := [.int r2.1]) (rest := []) (ci := 9) dX9_pathAt_10 lmX9_74 okX9_refused rfl (by decide) rfl (Nat.le_of_ble_eq_true rfl) rfl hb3 (c_X9_refused h3) ?_
  refine hs_if_eq (tgt := 18) dX9_pathAt_13 (by decide) (fun hc4 => ?_) (fun hc4 => ?_)
  · rw [if_pos hc4] at h
    refine hs_aload_n dX9_pathAt_18 0 rfl ?_
    obtain ⟨r5, h5, h⟩ := hb_bind h
    obtain ⟨h5, nf5, hb5⟩ := hb_on_at h5
    refine hs_callVv (μ' := mX9_laysFar) (mc := 0) (ms := 0) (rc := 0) (rs := 0) (As := []) (rest := []) (ci := 9) dX9_pathAt_19 lmX9_191 okX9_laysFar rfl (by decide) rfl (Nat.le_of_ble_eq_true rfl) rfl hb5 (c_X9_laysFar h5) ?_
    refine hs_aload_n dX9_pathAt_22 0 rfl ?_
    obtain ⟨r6, h6, h⟩ := hb_bind h
    refine hs_getR dX9_pathAt_23 lkX9_35 rfl h6 ?_
    refine hs_iload_n dX9_pathAt_26 1 rfl ?_
    obtain ⟨r7, h7, h⟩ := hb_bind h
    refine hs_iald dX9_pathAt_27 h7 ?_
    refine hs_iconst (v := (-1 : Int32)) dX9_pathAt_28 (by decide) ?_
    refine hs_icmp_eq (tgt := 46) dX9_pathAt_29 (by decide) (fun hc8 => ?_) (fun hc8 => ?_)
    · rw [if_pos hc8] at h
      refine hs_iconst (v := (-1 : Int32)) dX9_pathAt_46 (by decide) ?_
      obtain rfl := Option.some.inj h
      exact hs_ireturn dX9_pathAt_47 rfl (by rfl) (fun _ => rfl)
    · rw [if_neg hc8] at h
      refine hs_iload_n dX9_pathAt_32 2 rfl ?_
      refine hs_iconst (v := (0 : Int32)) dX9_pathAt_33 (by decide) ?_
      refine hs_aload_n dX9_pathAt_34 0 rfl ?_
      obtain ⟨r9, h9, h⟩ := hb_bind h
      refine hs_getR dX9_pathAt_35 lkX9_35 rfl h9 ?_
      refine hs_iload_n dX9_pathAt_38 1 rfl ?_
      obtain ⟨r10, h10, h⟩ := hb_bind h
      refine hs_iald dX9_pathAt_39 h10 ?_
      obtain ⟨r11, h11, h⟩ := hb_bind h
      refine hs_callSi (μ' := mX9_within) (mc := 0) (ms := 0) (rc := 0) (rs := 0) (As := [.int x2, .int (0 : Int32), .int r10]) (rest := []) dX9_pathAt_40 lmX9_78 okX9_within rfl (by decide) rfl (Nat.le_of_ble_eq_true rfl) (c_X9_within h11) ?_
      refine hs_if_ne (tgt := 48) dX9_pathAt_43 (by decide) (fun hc12 => ?_) (fun hc12 => ?_)
      · rw [if_neg hc12] at h
        refine hs_aload_n dX9_pathAt_48 0 rfl ?_
        obtain ⟨r13, h13, h⟩ := hb_bind h
        refine hs_getR dX9_pathAt_49 lkX9_38 rfl h13 ?_
        refine hs_aload_n dX9_pathAt_52 0 rfl ?_
        obtain ⟨r14, h14, h⟩ := hb_bind h
        refine hs_getR dX9_pathAt_53 lkX9_35 rfl h14 ?_
        refine hs_iload_n dX9_pathAt_56 1 rfl ?_
        obtain ⟨r15, h15, h⟩ := hb_bind h
        refine hs_iald dX9_pathAt_57 h15 ?_
        refine hs_lconst (v := (1 : Int64)) dX9_pathAt_58 (by decide) ?_
        refine hs_iload_n dX9_pathAt_59 1 rfl ?_
        refine hs_lshl dX9_pathAt_60 ?_
        obtain ⟨r16, h16, h⟩ := hb_bind h
        refine hs_last dX9_pathAt_61 h16 ?_
        refine hs_aload_n dX9_pathAt_62 0 rfl ?_
        obtain ⟨r17, h17, h⟩ := hb_bind h
        refine hs_getR dX9_pathAt_63 lkX9_35 rfl h17 ?_
        refine hs_iload_n dX9_pathAt_66 1 rfl ?_
        obtain ⟨r18, h18, h⟩ := hb_bind h
        refine hs_iald dX9_pathAt_67 h18 ?_
        refine hs_iconst (v := (1 : Int32)) dX9_pathAt_68 (by decide) ?_
        refine hs_isub dX9_pathAt_69 ?_
        refine hs_istore_n (lv' := [(3, .int (r18 - (1 : Int32))), (0, .ref x0), (1, .int x1), (2, .int x2)]) dX9_pathAt_70 (by decide) rfl ?_
        refine hs_sub (lv' := [(0, .ref x0), (2, .int x2), (3, .int (r18 - (1 : Int32)))]) [1, 3, 0] rfl ?_
        exact c_X9_pathAt_b71 hb_FU _ _ _ _ _ h
      · rw [if_pos hc12] at h
        refine hs_iconst (v := (-1 : Int32)) dX9_pathAt_46 (by decide) ?_
        obtain rfl := Option.some.inj h
        exact hs_ireturn dX9_pathAt_47 rfl (by rfl) (fun _ => rfl)
  · rw [if_neg hc4] at h
    refine hs_iconst (v := (0 : Int32)) dX9_pathAt_16 (by decide) ?_
    obtain rfl := Option.some.inj h
    exact hs_ireturn dX9_pathAt_17 rfl (by rfl) (fun _ => rfl)
def mX9_dominates : hb_Y := (yX9_dominates, cX9_dominates, 3, (some .boolean), [], false)
set_option maxHeartbeats 4000000 in
set_option maxRecDepth 20000 in
theorem c_X9_dominates_b23 {G : hb_G} {l : Launch} {z : Bool}  {x0 : Nat} {x1 : Int32} {x2 : Int32} {s0 : Nat} {s1 : Nat} {s2 : Int32} {σ : hb_M} {r : (Int32 × hb_M)} (h : f_X9_dominates_b23 x0 x1 x2 s0 s1 s2 σ = some r) : hb_T G l z mX9_dominates 4 0 0 23 [(0, .ref x0), (1, .int x1), (2, .int x2)] [.int s2, .ref s1, .ref s0] σ (.inl (some (.int r.1)), r.2) := by
  unfold f_X9_dominates_b23 at h
  obtain ⟨r1, h1, h⟩ := hb_bind h
  obtain ⟨h1, nf1, hb1⟩ := hb_on_at h1
  refine hs_callVi (μ' := mX9_need) (mc := 0) (ms := 0) (rc := 0) (rs := 0) (As := [.int s2]) (rest := [.ref s0]) (ci := 9) dX9_dominates_23 lmX9_187 okX9_need rfl (by decide) rfl (Nat.le_of_ble_eq_true rfl) rfl hb1 (c_X9_need h1) ?_
  obtain ⟨r2, h2, h⟩ := hb_bind h
  obtain ⟨h2, nf2, hb2⟩ := hb_on_at h2
  refine hs_callVi (μ' := mX9_refused) (mc := 0) (ms := 0) (rc := 0) (rs := 0) (As := [.int r1.1]) (rest := []) (ci := 9) dX9_dominates_26 lmX9_74 okX9_refused rfl (by decide) rfl (Nat.le_of_ble_eq_true rfl) rfl hb2 (c_X9_refused h2) ?_
  refine hs_if_eq (tgt := 34) dX9_dominates_29 (by decide) (fun hc3 => ?_) (fun hc3 => ?_)
  · rw [if_pos hc3] at h
    refine hs_aload_n dX9_dominates_34 0 rfl ?_
    obtain ⟨r4, h4, h⟩ := hb_bind h
    obtain ⟨h4, nf4, hb4⟩ := hb_on_at h4
    refine hs_callVv (μ' := mX9_laysRetained) (mc := 0) (ms := 0) (rc := 0) (rs := 0) (As := []) (rest := []) (ci := 9) dX9_dominates_35 lmX9_198 okX9_laysRetained rfl (by decide) rfl (Nat.le_of_ble_eq_true rfl) rfl hb4 (c_X9_laysRetained h4) ?_
    refine hs_aload_n dX9_dominates_38 0 rfl ?_
    obtain ⟨r5, h5, h⟩ := hb_bind h
    refine hs_getR dX9_dominates_39 lkX9_31 rfl h5 ?_
    refine hs_iload_n dX9_dominates_42 1 rfl ?_
    obtain ⟨r6, h6, h⟩ := hb_bind h
    refine hs_lald dX9_dominates_43 h6 ?_
    refine hs_iload_n dX9_dominates_44 2 rfl ?_
    refine hs_lshr dX9_dominates_45 ?_
    refine hs_lconst (v := (1 : Int64)) dX9_dominates_46 (by decide) ?_
    refine hs_land dX9_dominates_47 ?_
    refine hs_lconst (v := (1 : Int64)) dX9_dominates_48 (by decide) ?_
    refine hs_lcmp dX9_dominates_49 ?_
    refine hs_if_ne (tgt := 57) dX9_dominates_50 (by decide) (fun hc7 => ?_) (fun hc7 => ?_)
    · rw [if_neg hc7] at h
      refine hs_iconst (v := (0 : Int32)) dX9_dominates_57 (by decide) ?_
      obtain rfl := Option.some.inj h
      exact hs_ireturn dX9_dominates_58 rfl (by decide) (fun _ => rfl)
    · rw [if_pos hc7] at h
      refine hs_iconst (v := (1 : Int32)) dX9_dominates_53 (by decide) ?_
      refine hs_goto (tgt := 58) dX9_dominates_54 (by decide) ?_
      obtain rfl := Option.some.inj h
      exact hs_ireturn dX9_dominates_58 rfl (by decide) (fun _ => rfl)
  · rw [if_neg hc3] at h
    refine hs_iconst (v := (0 : Int32)) dX9_dominates_32 (by decide) ?_
    obtain rfl := Option.some.inj h
    exact hs_ireturn dX9_dominates_33 rfl (by decide) (fun _ => rfl)
set_option maxHeartbeats 4000000 in
set_option maxRecDepth 20000 in
theorem c_X9_dominates_b22 {G : hb_G} {l : Launch} {z : Bool}  {x0 : Nat} {x1 : Int32} {x2 : Int32} {s0 : Nat} {s1 : Nat} {σ : hb_M} {r : (Int32 × hb_M)} (h : f_X9_dominates_b22 x0 x1 x2 s0 s1 σ = some r) : hb_T G l z mX9_dominates 4 0 0 22 [(0, .ref x0), (1, .int x1), (2, .int x2)] [.ref s1, .ref s0] σ (.inl (some (.int r.1)), r.2) := by
  unfold f_X9_dominates_b22 at h
  refine hs_iconst (v := (0 : Int32)) dX9_dominates_22 (by decide) ?_
  refine hs_sub (lv' := [(0, .ref x0), (1, .int x1), (2, .int x2)]) [0, 1, 2] rfl ?_
  exact c_X9_dominates_b23 h
set_option maxHeartbeats 4000000 in
set_option maxRecDepth 20000 in
theorem c_X9_dominates {G : hb_G} {l : Launch} {z : Bool} {x0 : Nat} {x1 : Int32} {x2 : Int32} {σ : hb_M} {r : (Int32 × hb_M)} (h : f_X9_dominates x0 x1 x2 σ = some r) : hb_Call G l z 4 0 0 mX9_dominates [.ref x0, .int x1, .int x2] σ (.inl (some (.int r.1)), r.2) := by
  refine hb_met (by decide) (Nat.le_of_ble_eq_true rfl) ?_
  unfold f_X9_dominates at h
  refine hs_aload_n dX9_dominates_0 0 rfl ?_
  refine hs_aload_n dX9_dominates_1 0 rfl ?_
  refine hs_aload_n dX9_dominates_2 0 rfl ?_
  refine hs_iload_n dX9_dominates_3 1 rfl ?_
  obtain ⟨r1, h1, h⟩ := hb_bind h
  obtain ⟨h1, nf1, hb1⟩ := hb_on_at h1
  refine hs_callVi (μ' := mX9_isObject) (mc := 0) (ms := 0) (rc := 0) (rs := 0) (As := [.int x1]) (rest := [.ref x0, .ref x0]) (ci := 9) dX9_dominates_4 lmX9_106 okX9_isObject rfl (by decide) rfl (Nat.le_of_ble_eq_true rfl) rfl hb1 (c_X9_isObject h1) ?_
  refine hs_if_eq (tgt := 22) dX9_dominates_7 (by decide) (fun hc2 => ?_) (fun hc2 => ?_)
  · rw [if_pos hc2] at h
    refine hs_sub (lv' := [(0, .ref x0), (1, .int x1), (2, .int x2)]) [0, 1, 2] rfl ?_
    exact c_X9_dominates_b22 h
  · rw [if_neg hc2] at h
    refine hs_aload_n dX9_dominates_10 0 rfl ?_
    refine hs_iload_n dX9_dominates_11 2 rfl ?_
    obtain ⟨r3, h3, h⟩ := hb_bind h
    obtain ⟨h3, nf3, hb3⟩ := hb_on_at h3
    refine hs_callVi (μ' := mX9_isObject) (mc := 0) (ms := 0) (rc := 0) (rs := 0) (As := [.int x2]) (rest := [.ref x0, .ref x0]) (ci := 9) dX9_dominates_12 lmX9_106 okX9_isObject rfl (by decide) rfl (Nat.le_of_ble_eq_true rfl) rfl hb3 (c_X9_isObject h3) ?_
    refine hs_if_eq (tgt := 22) dX9_dominates_15 (by decide) (fun hc4 => ?_) (fun hc4 => ?_)
    · rw [if_pos hc4] at h
      refine hs_sub (lv' := [(0, .ref x0), (1, .int x1), (2, .int x2)]) [0, 1, 2] rfl ?_
      exact c_X9_dominates_b22 h
    · rw [if_neg hc4] at h
      refine hs_iconst (v := (1 : Int32)) dX9_dominates_18 (by decide) ?_
      refine hs_goto (tgt := 23) dX9_dominates_19 (by decide) ?_
      refine hs_sub (lv' := [(0, .ref x0), (1, .int x1), (2, .int x2)]) [0, 1, 2] rfl ?_
      exact c_X9_dominates_b23 h
def mX9_dominator : hb_Y := (yX9_dominator, cX9_dominator, 2, (some .int), [], false)
set_option maxHeartbeats 4000000 in
set_option maxRecDepth 20000 in
theorem c_X9_dominator {G : hb_G} {l : Launch} {z : Bool} {x0 : Nat} {x1 : Int32} {σ : hb_M} {r : (Int32 × hb_M)} (h : f_X9_dominator x0 x1 σ = some r) : hb_Call G l z 4 0 0 mX9_dominator [.ref x0, .int x1] σ (.inl (some (.int r.1)), r.2) := by
  refine hb_met (by decide) (Nat.le_of_ble_eq_true rfl) ?_
  unfold f_X9_dominator at h
  refine hs_aload_n dX9_dominator_0 0 rfl ?_
  refine hs_aload_n dX9_dominator_1 0 rfl ?_
  refine hs_aload_n dX9_dominator_2 0 rfl ?_
  refine hs_iload_n dX9_dominator_3 1 rfl ?_
  obtain ⟨r1, h1, h⟩ := hb_bind h
  obtain ⟨h1, nf1, hb1⟩ := hb_on_at h1
  refine hs_callVi (μ' := mX9_isObject) (mc := 0) (ms := 0) (rc := 0) (rs := 0) (As := [.int x1]) (rest := [.ref x0, .ref x0]) (ci := 9) dX9_dominator_4 lmX9_106 okX9_isObject rfl (by decide) rfl (Nat.le_of_ble_eq_true rfl) rfl hb1 (c_X9_isObject h1) ?_
  obtain ⟨r2, h2, h⟩ := hb_bind h
  obtain ⟨h2, nf2, hb2⟩ := hb_on_at h2
  refine hs_callVi (μ' := mX9_need) (mc := 0) (ms := 0) (rc := 0) (rs := 0) (As := [.int r1.1]) (rest := [.ref x0]) (ci := 9) dX9_dominator_7 lmX9_187 okX9_need rfl (by decide) rfl (Nat.le_of_ble_eq_true rfl) rfl hb2 (c_X9_need h2) ?_
  obtain ⟨r3, h3, h⟩ := hb_bind h
  obtain ⟨h3, nf3, hb3⟩ := hb_on_at h3
  refine hs_callVi (μ' := mX9_refused) (mc := 0) (ms := 0) (rc := 0) (rs := 0) (As := [.int r2.1]) (rest := []) (ci := 9) dX9_dominator_10 lmX9_74 okX9_refused rfl (by decide) rfl (Nat.le_of_ble_eq_true rfl) rfl hb3 (c_X9_refused h3) ?_
  refine hs_if_eq (tgt := 18) dX9_dominator_13 (by decide) (fun hc4 => ?_) (fun hc4 => ?_)
  · rw [if_pos hc4] at h
    refine hs_aload_n dX9_dominator_18 0 rfl ?_
    obtain ⟨r5, h5, h⟩ := hb_bind h
    obtain ⟨h5, nf5, hb5⟩ := hb_on_at h5
    refine hs_callVv (μ' := mX9_laysRetained) (mc := 0) (ms := 0) (rc := 0) (rs := 0) (As := []) (rest := []) (ci := 9) dX9_dominator_19 lmX9_198 okX9_laysRetained rfl (by decide) rfl (Nat.le_of_ble_eq_true rfl) rfl hb5 (c_X9_laysRetained h5) ?_
    refine hs_aload_n dX9_dominator_22 0 rfl ?_
    refine hs_iload_n dX9_dominator_23 1 rfl ?_
    obtain ⟨r6, h6, h⟩ := hb_bind h
    obtain ⟨h6, nf6, hb6⟩ := hb_on_at h6
    refine hs_callVi (μ' := mX9_immediate) (mc := 0) (ms := 0) (rc := 0) (rs := 0) (As := [.int x1]) (rest := []) (ci := 9) dX9_dominator_24 lmX9_201 okX9_immediate rfl (by decide) rfl (Nat.le_of_ble_eq_true rfl) rfl hb6 (c_X9_immediate h6) ?_
    obtain rfl := Option.some.inj h
    exact hs_ireturn dX9_dominator_27 rfl (by rfl) (fun _ => rfl)
  · rw [if_neg hc4] at h
    refine hs_iconst (v := (0 : Int32)) dX9_dominator_16 (by decide) ?_
    obtain rfl := Option.some.inj h
    exact hs_ireturn dX9_dominator_17 rfl (by rfl) (fun _ => rfl)
def mX9_depth : hb_Y := (yX9_depth, cX9_depth, 2, (some .int), [], false)
set_option maxHeartbeats 4000000 in
set_option maxRecDepth 20000 in
theorem c_X9_depth {G : hb_G} {l : Launch} {z : Bool} {x0 : Nat} {x1 : Int32} {σ : hb_M} {r : (Int32 × hb_M)} (h : f_X9_depth x0 x1 σ = some r) : hb_Call G l z 4 0 0 mX9_depth [.ref x0, .int x1] σ (.inl (some (.int r.1)), r.2) := by
  refine hb_met (by decide) (Nat.le_of_ble_eq_true rfl) ?_
  unfold f_X9_depth at h
  refine hs_aload_n dX9_depth_0 0 rfl ?_
  refine hs_aload_n dX9_depth_1 0 rfl ?_
  refine hs_aload_n dX9_depth_2 0 rfl ?_
  refine hs_iload_n dX9_depth_3 1 rfl ?_
  obtain ⟨r1, h1, h⟩ := hb_bind h
  obtain ⟨h1, nf1, hb1⟩ := hb_on_at h1
  refine hs_callVi (μ' := mX9_isObject) (mc := 0) (ms := 0) (rc := 0) (rs := 0) (As := [.int x1]) (rest := [.ref x0, .ref x0]) (ci := 9) dX9_depth_4 lmX9_106 okX9_isObject rfl (by decide) rfl (Nat.le_of_ble_eq_true rfl) rfl hb1 (c_X9_isObject h1) ?_
  obtain ⟨r2, h2, h⟩ := hb_bind h
  obtain ⟨h2, nf2, hb2⟩ := hb_on_at h2
  refine hs_callVi (μ' := mX9_need) (mc := 0) (ms := 0) (rc := 0) (rs := 0) (As := [.int r1.1]) (rest := [.ref x0]) (ci := 9) dX9_depth_7 lmX9_187 okX9_need rfl (by decide) rfl (Nat.le_of_ble_eq_true rfl) rfl hb2 (c_X9_need h2) ?_
  obtain ⟨r3, h3, h⟩ := hb_bind h
  obtain ⟨h3, nf3, hb3⟩ := hb_on_at h3
  refine hs_callVi (μ' := mX9_refused) (mc := 0) (ms := 0) (rc := 0) (rs := 0) (As := [.int r2.1]) (rest := []) (ci := 9) dX9_depth_10 lmX9_74 okX9_refused rfl (by decide) rfl (Nat.le_of_ble_eq_true rfl) rfl hb3 (c_X9_refused h3) ?_
  refine hs_if_eq (tgt := 18) dX9_depth_13 (by decide) (fun hc4 => ?_) (fun hc4 => ?_)
  · rw [if_pos hc4] at h
    refine hs_aload_n dX9_depth_18 0 rfl ?_
    obtain ⟨r5, h5, h⟩ := hb_bind h
    obtain ⟨h5, nf5, hb5⟩ := hb_on_at h5
    refine hs_callVv (μ' := mX9_laysRetained) (mc := 0) (ms := 0) (rc := 0) (rs := 0) (As := []) (rest := []) (ci := 9) dX9_depth_19 lmX9_198 okX9_laysRetained rfl (by decide) rfl (Nat.le_of_ble_eq_true rfl) rfl hb5 (c_X9_laysRetained h5) ?_
    refine hs_aload_n dX9_depth_22 0 rfl ?_
    refine hs_iload_n dX9_depth_23 1 rfl ?_
    obtain ⟨r6, h6, h⟩ := hb_bind h
    obtain ⟨h6, nf6, hb6⟩ := hb_on_at h6
    refine hs_callVi (μ' := mX9_isReached) (mc := 0) (ms := 0) (rc := 0) (rs := 0) (As := [.int x1]) (rest := []) (ci := 9) dX9_depth_24 lmX9_181 okX9_isReached rfl (by decide) rfl (Nat.le_of_ble_eq_true rfl) rfl hb6 (c_X9_isReached h6) ?_
    refine hs_if_eq (tgt := 38) dX9_depth_27 (by decide) (fun hc7 => ?_) (fun hc7 => ?_)
    · rw [if_pos hc7] at h
      refine hs_iconst (v := (-1 : Int32)) dX9_depth_38 (by decide) ?_
      obtain rfl := Option.some.inj h
      exact hs_ireturn dX9_depth_39 rfl (by rfl) (fun _ => rfl)
    · rw [if_neg hc7] at h
      refine hs_aload_n dX9_depth_30 0 rfl ?_
      refine hs_iload_n dX9_depth_31 1 rfl ?_
      obtain ⟨r8, h8, h⟩ := hb_bind h
      obtain ⟨h8, nf8, hb8⟩ := hb_on_at h8
      refine hs_callVi (μ' := mX9_depthOf) (mc := 0) (ms := 0) (rc := 0) (rs := 0) (As := [.int x1]) (rest := []) (ci := 9) dX9_depth_32 lmX9_184 okX9_depthOf rfl (by decide) rfl (Nat.le_of_ble_eq_true rfl) rfl hb8 (c_X9_depthOf h8) ?_
      refine hs_goto (tgt := 39) dX9_depth_35 (by decide) ?_
      obtain rfl := Option.some.inj h
      exact hs_ireturn dX9_depth_39 rfl (by rfl) (fun _ => rfl)
  · rw [if_neg hc4] at h
    refine hs_iconst (v := (0 : Int32)) dX9_depth_16 (by decide) ?_
    obtain rfl := Option.some.inj h
    exact hs_ireturn dX9_depth_17 rfl (by rfl) (fun _ => rfl)
def mX9_dominatedAt : hb_Y := (yX9_dominatedAt, cX9_dominatedAt, 5, (some .int), [], false)
set_option maxHeartbeats 4000000 in
set_option maxRecDepth 20000 in
theorem c_X9_dominatedAt_b77 {G : hb_G} {l : Launch} {z : Bool}  (k40 : Nat → Int32 → Int32 → Int32 → Int32 → hb_M → Option (Int32 × hb_M)) (hk40 : ∀ (x0 : Nat) (x1 : Int32) (x2 : Int32) (x3 : Int32) (x4 : Int32) (σ : hb_M) (r : (Int32 × hb_M)), k40 x0 x1 x2 x3 x4 σ = some r → hb_T G l z mX9_dominatedAt 4 0 0 40 [(0, .ref x0), (1, .int x1), (2, .int x2), (3, .int x3), (4, .int x4)] [] σ (.inl (some (.int r.1)), r.2))  {x0 : Nat} {x1 : Int32} {x2 : Int32} {x3 : Int32} {x4 : Int32} {σ : hb_M} {r : (Int32 × hb_M)} (h : f_X9_dominatedAt_b77 k40 x0 x1 x2 x3 x4 σ = some r) : hb_T G l z mX9_dominatedAt 4 0 0 77 [(0, .ref x0), (1, .int x1), (2, .int x2), (3, .int x3), (4, .int x4)] [] σ (.inl (some (.int r.1)), r.2) := by
  unfold f_X9_dominatedAt_b77 at h
  refine hs_iinc2 (k := (1 : Int32)) (lv' := [(4, .int (x4 + (1 : Int32))), (0, .ref x0), (1, .int x1), (2, .int x2), (3, .int x3)]) dX9_dominatedAt_77 (by decide) 4 rfl (by decide) rfl ?_
  refine hs_goto (tgt := 40) dX9_dominatedAt_80 (by decide) ?_
  refine hs_sub (lv' := [(0, .ref x0), (1, .int x1), (2, .int x2), (3, .int x3), (4, .int (x4 + (1 : Int32)))]) [1, 2, 3, 4, 0] rfl ?_
  exact hk40 _ _ _ _ _ _ _ h
set_option maxHeartbeats 4000000 in
set_option maxRecDepth 20000 in
theorem c_X9_dominatedAt_b40 {G : hb_G} {l : Launch} {z : Bool} : ∀ (n : Nat) (x0 : Nat) (x1 : Int32) (x2 : Int32) (x3 : Int32) (x4 : Int32) (σ : hb_M) (r : (Int32 × hb_M)), f_X9_dominatedAt_b40 n x0 x1 x2 x3 x4 σ = some r → hb_T G l z mX9_dominatedAt 4 0 0 40 [(0, .ref x0), (1, .int x1), (2, .int x2), (3, .int x3), (4, .int x4)] [] σ (.inl (some (.int r.1)), r.2) := by
  intro n
  induction n with
  | zero =>
    intro x0 x1 x2 x3 x4 σ r h
    cases h
  | succ n ih =>
    intro x0 x1 x2 x3 x4 σ r h
    rw [f_X9_dominatedAt_b40] at h
    refine hs_iload dX9_dominatedAt_40 4 rfl ?_
    refine hs_bipush (v := (40 : Int32)) dX9_dominatedAt_42 (by decide) ?_
    refine hs_icmp_ge (tgt := 83) dX9_dominatedAt_44 (by decide) (fun hc1 => ?_) (fun hc1 => ?_)
    · rw [if_pos hc1] at h
      refine hs_iconst (v := (-1 : Int32)) dX9_dominatedAt_83 (by decide) ?_
      obtain rfl := Option.some.inj h
      exact hs_ireturn dX9_dominatedAt_84 rfl (by rfl) (fun _ => rfl)
    · rw [if_neg hc1] at h
      refine hs_aload_n dX9_dominatedAt_47 0 rfl ?_
      refine hs_iload dX9_dominatedAt_48 4 rfl ?_
      obtain ⟨r2, h2, h⟩ := hb_bind h
      obtain ⟨h2, nf2, hb2⟩ := hb_on_at h2
      refine hs_callVi (μ' := mX9_isReached) (mc := 0) (ms := 0) (rc := 0) (rs := 0) (As := [.int x4]) (rest := []) (ci := 9) dX9_dominatedAt_50 lmX9_181 okX9_isReached rfl (by decide) rfl (Nat.le_of_ble_eq_true rfl) rfl hb2 (c_X9_isReached h2) ?_
      refine hs_if_eq (tgt := 77) dX9_dominatedAt_53 (by decide) (fun hc3 => ?_) (fun hc3 => ?_)
      · rw [if_pos hc3] at h
        refine hs_sub (lv' := [(0, .ref x0), (1, .int x1), (2, .int x2), (3, .int x3), (4, .int x4)]) [0, 1, 2, 3, 4] rfl ?_
        exact c_X9_dominatedAt_b77 (f_X9_dominatedAt_b40 n) ih h
      · rw [if_neg hc3] at h
        refine hs_aload_n dX9_dominatedAt_56 0 rfl ?_
        refine hs_iload dX9_dominatedAt_57 4 rfl ?_
        obtain ⟨r4, h4, h⟩ := hb_bind h
        obtain ⟨h4, nf4, hb4⟩ := hb_on_at h4
        refine hs_callVi (μ' := mX9_immediate) (mc := 0) (ms := 0) (rc := 0) (rs := 0) (As := [.int x4]) (rest := []) (ci := 9) dX9_dominatedAt_59 lmX9_201 okX9_immediate rfl (by decide) rfl (Nat.le_of_ble_eq_true rfl) rfl hb4 (c_X9_immediate h4) ?_
        refine hs_iload_n dX9_dominatedAt_62 1 rfl ?_
        refine hs_icmp_ne (tgt := 77) dX9_dominatedAt_63 (by decide) (fun hc5 => ?_) (fun hc5 => ?_)
        · rw [if_neg hc5] at h
          refine hs_sub (lv' := [(0, .ref x0), (1, .int x1), (2, .int x2), (3, .int x3), (4, .int x4)]) [0, 1, 2, 3, 4] rfl ?_
          exact c_X9_dominatedAt_b77 (f_X9_dominatedAt_b40 n) ih h
        · rw [if_pos hc5] at h
          refine hs_iload_n dX9_dominatedAt_66 3 rfl ?_
          refine hs_iload_n dX9_dominatedAt_67 2 rfl ?_
          refine hs_icmp_ne (tgt := 74) dX9_dominatedAt_68 (by decide) (fun hc6 => ?_) (fun hc6 => ?_)
          · rw [if_neg hc6] at h
            refine hs_iinc2 (k := (1 : Int32)) (lv' := [(3, .int (x3 + (1 : Int32))), (0, .ref x0), (1, .int x1), (2, .int x2), (4, .int x4)]) dX9_dominatedAt_74 (by decide) 3 rfl (by decide) rfl ?_
            refine hs_sub (lv' := [(0, .ref x0), (1, .int x1), (2, .int x2), (3, .int (x3 + (1 : Int32))), (4, .int x4)]) [1, 2, 3, 0, 4] rfl ?_
            exact c_X9_dominatedAt_b77 (f_X9_dominatedAt_b40 n) ih h
          · rw [if_pos hc6] at h
            refine hs_iload dX9_dominatedAt_71 4 rfl ?_
            obtain rfl := Option.some.inj h
            exact hs_ireturn dX9_dominatedAt_73 rfl (by rfl) (fun _ => rfl)
set_option maxHeartbeats 4000000 in
set_option maxRecDepth 20000 in
theorem c_X9_dominatedAt_b20 {G : hb_G} {l : Launch} {z : Bool}  {x0 : Nat} {x1 : Int32} {x2 : Int32} {s0 : Nat} {s1 : Nat} {s2 : Int32} {σ : hb_M} {r : (Int32 × hb_M)} (h : f_X9_dominatedAt_b20 x0 x1 x2 s0 s1 s2 σ = some r) : hb_T G l z mX9_dominatedAt 4 0 0 20 [(0, .ref x0), (1, .int x1), (2, .int x2)] [.int s2, .ref s1, .ref s0] σ (.inl (some (.int r.1)), r.2) := by
  unfold f_X9_dominatedAt_b20 at h
  obtain ⟨r1, h1, h⟩ := hb_bind h
  obtain ⟨h1, nf1, hb1⟩ := hb_on_at h1
  refine hs_callVi (μ' := mX9_need) (mc := 0) (ms := 0) (rc := 0) (rs := 0) (As := [.int s2]) (rest := [.ref s0]) (ci := 9) dX9_dominatedAt_20 lmX9_187 okX9_need rfl (by decide) rfl (Nat.le_of_ble_eq_true rfl) rfl hb1 (c_X9_need h1) ?_
  obtain ⟨r2, h2, h⟩ := hb_bind h
  obtain ⟨h2, nf2, hb2⟩ := hb_on_at h2
  refine hs_callVi (μ' := mX9_refused) (mc := 0) (ms := 0) (rc := 0) (rs := 0) (As := [.int r1.1]) (rest := []) (ci := 9) dX9_dominatedAt_23 lmX9_74 okX9_refused rfl (by decide) rfl (Nat.le_of_ble_eq_true rfl) rfl hb2 (c_X9_refused h2) ?_
  refine hs_if_eq (tgt := 31) dX9_dominatedAt_26 (by decide) (fun hc3 => ?_) (fun hc3 => ?_)
  · rw [if_pos hc3] at h
    refine hs_aload_n dX9_dominatedAt_31 0 rfl ?_
    obtain ⟨r4, h4, h⟩ := hb_bind h
    obtain ⟨h4, nf4, hb4⟩ := hb_on_at h4
    refine hs_callVv (μ' := mX9_laysRetained) (mc := 0) (ms := 0) (rc := 0) (rs := 0) (As := []) (rest := []) (ci := 9) dX9_dominatedAt_32 lmX9_198 okX9_laysRetained rfl (by decide) rfl (Nat.le_of_ble_eq_true rfl) rfl hb4 (c_X9_laysRetained h4) ?_
    refine hs_iconst (v := (0 : Int32)) dX9_dominatedAt_35 (by decide) ?_
    refine hs_istore_n (lv' := [(3, .int (0 : Int32)), (0, .ref x0), (1, .int x1), (2, .int x2)]) dX9_dominatedAt_36 (by decide) rfl ?_
    refine hs_iconst (v := (0 : Int32)) dX9_dominatedAt_37 (by decide) ?_
    refine hs_istore (lv' := [(4, .int (0 : Int32)), (3, .int (0 : Int32)), (0, .ref x0), (1, .int x1), (2, .int x2)]) dX9_dominatedAt_38 (by decide) rfl ?_
    refine hs_sub (lv' := [(0, .ref x0), (1, .int x1), (2, .int x2), (3, .int (0 : Int32)), (4, .int (0 : Int32))]) [2, 3, 4, 1, 0] rfl ?_
    exact c_X9_dominatedAt_b40 hb_FU _ _ _ _ _ _ _ h
  · rw [if_neg hc3] at h
    refine hs_iconst (v := (0 : Int32)) dX9_dominatedAt_29 (by decide) ?_
    obtain rfl := Option.some.inj h
    exact hs_ireturn dX9_dominatedAt_30 rfl (by rfl) (fun _ => rfl)
set_option maxHeartbeats 4000000 in
set_option maxRecDepth 20000 in
theorem c_X9_dominatedAt_b15 {G : hb_G} {l : Launch} {z : Bool}  {x0 : Nat} {x1 : Int32} {x2 : Int32} {s0 : Nat} {s1 : Nat} {σ : hb_M} {r : (Int32 × hb_M)} (h : f_X9_dominatedAt_b15 x0 x1 x2 s0 s1 σ = some r) : hb_T G l z mX9_dominatedAt 4 0 0 15 [(0, .ref x0), (1, .int x1), (2, .int x2)] [.ref s1, .ref s0] σ (.inl (some (.int r.1)), r.2) := by
  unfold f_X9_dominatedAt_b15 at h
  refine hs_iconst (v := (1 : Int32)) dX9_dominatedAt_15 (by decide) ?_
  refine hs_goto (tgt := 20) dX9_dominatedAt_16 (by decide) ?_
  refine hs_sub (lv' := [(0, .ref x0), (1, .int x1), (2, .int x2)]) [0, 1, 2] rfl ?_
  exact c_X9_dominatedAt_b20 h
set_option maxHeartbeats 4000000 in
set_option maxRecDepth 20000 in
theorem c_X9_dominatedAt {G : hb_G} {l : Launch} {z : Bool} {x0 : Nat} {x1 : Int32} {x2 : Int32} {σ : hb_M} {r : (Int32 × hb_M)} (h : f_X9_dominatedAt x0 x1 x2 σ = some r) : hb_Call G l z 4 0 0 mX9_dominatedAt [.ref x0, .int x1, .int x2] σ (.inl (some (.int r.1)), r.2) := by
  refine hb_met (by decide) (Nat.le_of_ble_eq_true rfl) ?_
  unfold f_X9_dominatedAt at h
  refine hs_aload_n dX9_dominatedAt_0 0 rfl ?_
  refine hs_aload_n dX9_dominatedAt_1 0 rfl ?_
  refine hs_iload_n dX9_dominatedAt_2 1 rfl ?_
  refine hs_iconst (v := (-1 : Int32)) dX9_dominatedAt_3 (by decide) ?_
  refine hs_icmp_eq (tgt := 15) dX9_dominatedAt_4 (by decide) (fun hc1 => ?_) (fun hc1 => ?_)
  · rw [if_pos hc1] at h
    refine hs_sub (lv' := [(0, .ref x0), (1, .int x1), (2, .int x2)]) [0, 1, 2] rfl ?_
    exact c_X9_dominatedAt_b15 h
  · rw [if_neg hc1] at h
    refine hs_aload_n dX9_dominatedAt_7 0 rfl ?_
    refine hs_iload_n dX9_dominatedAt_8 1 rfl ?_
    obtain ⟨r2, h2, h⟩ := hb_bind h
    obtain ⟨h2, nf2, hb2⟩ := hb_on_at h2
    refine hs_callVi (μ' := mX9_isObject) (mc := 0) (ms := 0) (rc := 0) (rs := 0) (As := [.int x1]) (rest := [.ref x0, .ref x0]) (ci := 9) dX9_dominatedAt_9 lmX9_106 okX9_isObject rfl (by decide) rfl (Nat.le_of_ble_eq_true rfl) rfl hb2 (c_X9_isObject h2) ?_
    refine hs_if_eq (tgt := 19) dX9_dominatedAt_12 (by decide) (fun hc3 => ?_) (fun hc3 => ?_)
    · rw [if_pos hc3] at h
      refine hs_iconst (v := (0 : Int32)) dX9_dominatedAt_19 (by decide) ?_
      refine hs_sub (lv' := [(0, .ref x0), (1, .int x1), (2, .int x2)]) [0, 1, 2] rfl ?_
      exact c_X9_dominatedAt_b20 h
    · rw [if_neg hc3] at h
      refine hs_sub (lv' := [(0, .ref x0), (1, .int x1), (2, .int x2)]) [0, 1, 2] rfl ?_
      exact c_X9_dominatedAt_b15 h
def mX9_retainedBy : hb_Y := (yX9_retainedBy, cX9_retainedBy, 2, (some .int), [], false)
theorem okX9_retainedBy : hb_okV mX9_retainedBy 1 := ⟨⟨hb_w 11 (by decide +kernel) (by decide +kernel), hb_w 1665 (by decide +kernel) (by decide +kernel), ⟨by decide +kernel, by decide +kernel, by decide +kernel⟩, by decide⟩, hb_w 1664 (by decide +kernel) (by decide +kernel), hb_wp (q := (yX9_retainedBy, 29)) 66 (by decide +kernel) (by decide +kernel)⟩
set_option maxHeartbeats 4000000 in
set_option maxRecDepth 20000 in
theorem c_X9_retainedBy {G : hb_G} {l : Launch} {z : Bool} {x0 : Nat} {x1 : Int32} {σ : hb_M} {r : (Int32 × hb_M)} (h : f_X9_retainedBy x0 x1 σ = some r) : hb_Call G l z 4 0 0 mX9_retainedBy [.ref x0, .int x1] σ (.inl (some (.int r.1)), r.2) := by
  refine hb_met (by decide) (Nat.le_of_ble_eq_true rfl) ?_
  unfold f_X9_retainedBy at h
  refine hs_aload_n dX9_retainedBy_0 0 rfl ?_
  refine hs_aload_n dX9_retainedBy_1 0 rfl ?_
  obtain ⟨r1, h1, h⟩ := hb_bind h
  refine hs_getR dX9_retainedBy_2 lkX9_31 rfl h1 ?_
  refine hs_iload_n dX9_retainedBy_5 1 rfl ?_
  obtain ⟨r2, h2, h⟩ := hb_bind h
  refine hs_lald dX9_retainedBy_6 h2 ?_
  obtain ⟨r3, h3, h⟩ := hb_bind h
  obtain ⟨h3, nf3, hb3⟩ := hb_on_at h3
  refine hs_callVl (μ' := mX9_sizes) (mc := 0) (ms := 0) (rc := 0) (rs := 0) (As := [.long r2]) (rest := []) (ci := 9) dX9_retainedBy_7 lmX9_204 okX9_sizes rfl (by decide) rfl (Nat.le_of_ble_eq_true rfl) rfl hb3 (c_X9_sizes h3) ?_
  refine hs_l2i dX9_retainedBy_10 ?_
  obtain rfl := Option.some.inj h
  exact hs_ireturn dX9_retainedBy_11 rfl (by rfl) (fun _ => rfl)
def mX9_retainedSize : hb_Y := (yX9_retainedSize, cX9_retainedSize, 2, (some .int), [], false)
set_option maxHeartbeats 4000000 in
set_option maxRecDepth 20000 in
theorem c_X9_retainedSize {G : hb_G} {l : Launch} {z : Bool} {x0 : Nat} {x1 : Int32} {σ : hb_M} {r : (Int32 × hb_M)} (h : f_X9_retainedSize x0 x1 σ = some r) : hb_Call G l z 5 0 0 mX9_retainedSize [.ref x0, .int x1] σ (.inl (some (.int r.1)), r.2) := by
  refine hb_met (by decide) (Nat.le_of_ble_eq_true rfl) ?_
  unfold f_X9_retainedSize at h
  refine hs_aload_n dX9_retainedSize_0 0 rfl ?_
  refine hs_aload_n dX9_retainedSize_1 0 rfl ?_
  refine hs_aload_n dX9_retainedSize_2 0 rfl ?_
  refine hs_iload_n dX9_retainedSize_3 1 rfl ?_
  obtain ⟨r1, h1, h⟩ := hb_bind h
  obtain ⟨h1, nf1, hb1⟩ := hb_on_at h1
  refine hs_callVi (μ' := mX9_isObject) (mc := 0) (ms := 0) (rc := 0) (rs := 0) (As := [.int x1]) (rest := [.ref x0, .ref x0]) (ci := 9) dX9_retainedSize_4 lmX9_106 okX9_isObject rfl (by decide) rfl (Nat.le_of_ble_eq_true rfl) rfl hb1 (c_X9_isObject h1) ?_
  obtain ⟨r2, h2, h⟩ := hb_bind h
  obtain ⟨h2, nf2, hb2⟩ := hb_on_at h2
  refine hs_callVi (μ' := mX9_need) (mc := 0) (ms := 0) (rc := 0) (rs := 0) (As := [.int r1.1]) (rest := [.ref x0]) (ci := 9) dX9_retainedSize_7 lmX9_187 okX9_need rfl (by decide) rfl (Nat.le_of_ble_eq_true rfl) rfl hb2 (c_X9_need h2) ?_
  obtain ⟨r3, h3, h⟩ := hb_bind h
  obtain ⟨h3, nf3, hb3⟩ := hb_on_at h3
  refine hs_callVi (μ' := mX9_refused) (mc := 0) (ms := 0) (rc := 0) (rs := 0) (As := [.int r2.1]) (rest := []) (ci := 9) dX9_retainedSize_10 lmX9_74 okX9_refused rfl (by decide) rfl (Nat.le_of_ble_eq_true rfl) rfl hb3 (c_X9_refused h3) ?_
  refine hs_if_eq (tgt := 18) dX9_retainedSize_13 (by decide) (fun hc4 => ?_) (fun hc4 => ?_)
  · rw [if_pos hc4] at h
    refine hs_aload_n dX9_retainedSize_18 0 rfl ?_
    obtain ⟨r5, h5, h⟩ := hb_bind h
    obtain ⟨h5, nf5, hb5⟩ := hb_on_at h5
    refine hs_callVv (μ' := mX9_laysRetained) (mc := 0) (ms := 0) (rc := 0) (rs := 0) (As := []) (rest := []) (ci := 9) dX9_retainedSize_19 lmX9_198 okX9_laysRetained rfl (by decide) rfl (Nat.le_of_ble_eq_true rfl) rfl hb5 (c_X9_laysRetained h5) ?_
    refine hs_aload_n dX9_retainedSize_22 0 rfl ?_
    refine hs_iload_n dX9_retainedSize_23 1 rfl ?_
    obtain ⟨r6, h6, h⟩ := hb_bind h
    obtain ⟨h6, nf6, hb6⟩ := hb_on_at h6
    refine hs_callVi (μ' := mX9_retainedBy) (mc := 0) (ms := 0) (rc := 0) (rs := 0) (As := [.int x1]) (rest := []) (ci := 9) dX9_retainedSize_24 lmX9_208 okX9_retainedBy rfl (by decide) rfl (Nat.le_of_ble_eq_true rfl) rfl hb6 (c_X9_retainedBy h6) ?_
    obtain rfl := Option.some.inj h
    exact hs_ireturn dX9_retainedSize_27 rfl (by rfl) (fun _ => rfl)
  · rw [if_neg hc4] at h
    refine hs_iconst (v := (0 : Int32)) dX9_retainedSize_16 (by decide) ?_
    obtain rfl := Option.some.inj h
    exact hs_ireturn dX9_retainedSize_17 rfl (by rfl) (fun _ => rfl)
def mX9_bits : hb_Y := (yX9_bits, cX9_bits, 4, (some .int), [], false)
theorem okX9_bits : hb_okS mX9_bits 1 := ⟨⟨hb_w 11 (by decide +kernel) (by decide +kernel), hb_w 1676 (by decide +kernel) (by decide +kernel), ⟨by decide +kernel, by decide +kernel, by decide +kernel⟩, by decide⟩, hb_w 1675 (by decide +kernel) (by decide +kernel)⟩
set_option maxHeartbeats 4000000 in
set_option maxRecDepth 20000 in
theorem c_X9_bits_b4 {G : hb_G} {l : Launch} {z : Bool} : ∀ (n : Nat) (x0 : Int64) (x2 : Int32) (x3 : Int32) (σ : hb_M) (r : (Int32 × hb_M)), f_X9_bits_b4 n x0 x2 x3 σ = some r → hb_T G l z mX9_bits 0 0 0 4 [(0, .long x0), (2, .int x2), (3, .int x3)] [] σ (.inl (some (.int r.1)), r.2) := by
  intro n
  induction n with
  | zero =>
    intro x0 x2 x3 σ r h
    cases h
  | succ n ih =>
    intro x0 x2 x3 σ r h
    rw [f_X9_bits_b4] at h
    refine hs_iload_n dX9_bits_4 2 rfl ?_
    refine hs_bipush (v := (40 : Int32)) dX9_bits_5 (by decide) ?_
    refine hs_icmp_ge (tgt := 25) dX9_bits_7 (by decide) (fun hc1 => ?_) (fun hc1 => ?_)
    · rw [if_pos hc1] at h
      refine hs_iload_n dX9_bits_25 1 rfl ?_
      obtain rfl := Option.some.inj h
      exact hs_ireturn dX9_bits_26 rfl (by rfl) (fun _ => rfl)
    · rw [if_neg hc1] at h
      refine hs_iload_n dX9_bits_10 1 rfl ?_
      refine hs_lload_n dX9_bits_11 0 rfl ?_
      refine hs_iload_n dX9_bits_12 2 rfl ?_
      refine hs_lshr dX9_bits_13 ?_
      refine hs_lconst (v := (1 : Int64)) dX9_bits_14 (by decide) ?_
      refine hs_land dX9_bits_15 ?_
      refine hs_l2i dX9_bits_16 ?_
      refine hs_iadd dX9_bits_17 ?_
      refine hs_istore_n (lv' := [(2, .int (x2 + ((x0 >>> (x3.toInt64 &&& 63)) &&& (1 : Int64)).toInt32)), (0, .long x0), (3, .int x3)]) dX9_bits_18 (by decide) rfl ?_
      refine hs_iinc2 (k := (1 : Int32)) (lv' := [(3, .int (x3 + (1 : Int32))), (2, .int (x2 + ((x0 >>> (x3.toInt64 &&& 63)) &&& (1 : Int64)).toInt32)), (0, .long x0)]) dX9_bits_19 (by decide) 2 rfl (by decide) rfl ?_
      refine hs_goto (tgt := 4) dX9_bits_22 (by decide) ?_
      refine hs_sub (lv' := [(0, .long x0), (2, .int (x2 + ((x0 >>> (x3.toInt64 &&& 63)) &&& (1 : Int64)).toInt32)), (3, .int (x3 + (1 : Int32)))]) [2, 1, 0] rfl ?_
      exact ih _ _ _ _ _ h
set_option maxHeartbeats 4000000 in
set_option maxRecDepth 20000 in
theorem c_X9_bits {G : hb_G} {l : Launch} {z : Bool} {x0 : Int64} {σ : hb_M} {r : (Int32 × hb_M)} (h : f_X9_bits x0 σ = some r) : hb_Call G l z 0 0 0 mX9_bits [.long x0] σ (.inl (some (.int r.1)), r.2) := by
  refine hb_met (by decide) (Nat.le_of_ble_eq_true rfl) ?_
  unfold f_X9_bits at h
  refine hs_iconst (v := (0 : Int32)) dX9_bits_0 (by decide) ?_
  refine hs_istore_n (lv' := [(2, .int (0 : Int32)), (0, .long x0)]) dX9_bits_1 (by decide) rfl ?_
  refine hs_iconst (v := (0 : Int32)) dX9_bits_2 (by decide) ?_
  refine hs_istore_n (lv' := [(3, .int (0 : Int32)), (2, .int (0 : Int32)), (0, .long x0)]) dX9_bits_3 (by decide) rfl ?_
  refine hs_sub (lv' := [(0, .long x0), (2, .int (0 : Int32)), (3, .int (0 : Int32))]) [2, 1, 0] rfl ?_
  exact c_X9_bits_b4 hb_FU _ _ _ _ _ h
def mX9_retainedObjects : hb_Y := (yX9_retainedObjects, cX9_retainedObjects, 2, (some .int), [], false)
set_option maxHeartbeats 4000000 in
set_option maxRecDepth 20000 in
theorem c_X9_retainedObjects {G : hb_G} {l : Launch} {z : Bool} {x0 : Nat} {x1 : Int32} {σ : hb_M} {r : (Int32 × hb_M)} (h : f_X9_retainedObjects x0 x1 σ = some r) : hb_Call G l z 4 0 0 mX9_retainedObjects [.ref x0, .int x1] σ (.inl (some (.int r.1)), r.2) := by
  refine hb_met (by decide) (Nat.le_of_ble_eq_true rfl) ?_
  unfold f_X9_retainedObjects at h
  refine hs_aload_n dX9_retainedObjects_0 0 rfl ?_
  refine hs_aload_n dX9_retainedObjects_1 0 rfl ?_
  refine hs_aload_n dX9_retainedObjects_2 0 rfl ?_
  refine hs_iload_n dX9_retainedObjects_3 1 rfl ?_
  obtain ⟨r1, h1, h⟩ := hb_bind h
  obtain ⟨h1, nf1, hb1⟩ := hb_on_at h1
  refine hs_callVi (μ' := mX9_isObject) (mc := 0) (ms := 0) (rc := 0) (rs := 0) (As := [.int x1]) (rest := [.ref x0, .ref x0]) (ci := 9) dX9_retainedObjects_4 lmX9_106 okX9_isObject rfl (by decide) rfl (Nat.le_of_ble_eq_true rfl) rfl hb1 (c_X9_isObject h1) ?_
  obtain ⟨r2, h2, h⟩ := hb_bind h
  obtain ⟨h2, nf2, hb2⟩ := hb_on_at h2
  refine hs_callVi (μ' := mX9_need) (mc := 0) (ms := 0) (rc := 0) (rs := 0) (As := [.int r1.1]) (rest := [.ref x0]) (ci := 9) dX9_retainedObjects_7 lmX9_187 okX9_need rfl (by decide) rfl (Nat.le_of_ble_eq_true rfl) rfl hb2 (c_X9_need h2) ?_
  obtain ⟨r3, h3, h⟩ := hb_bind h
  obtain ⟨h3, nf3, hb3⟩ := hb_on_at h3
  refine hs_callVi (μ' := mX9_refused) (mc := 0) (ms := 0) (rc := 0) (rs := 0) (As := [.int r2.1]) (rest := []) (ci := 9) dX9_retainedObjects_10 lmX9_74 okX9_refused rfl (by decide) rfl (Nat.le_of_ble_eq_true rfl) rfl hb3 (c_X9_refused h3) ?_
  refine hs_if_eq (tgt := 18) dX9_retainedObjects_13 (by decide) (fun hc4 => ?_) (fun hc4 => ?_)
  · rw [if_pos hc4] at h
    refine hs_aload_n dX9_retainedObjects_18 0 rfl ?_
    obtain ⟨r5, h5, h⟩ := hb_bind h
    obtain ⟨h5, nf5, hb5⟩ := hb_on_at h5
    refine hs_callVv (μ' := mX9_laysRetained) (mc := 0) (ms := 0) (rc := 0) (rs := 0) (As := []) (rest := []) (ci := 9) dX9_retainedObjects_19 lmX9_198 okX9_laysRetained rfl (by decide) rfl (Nat.le_of_ble_eq_true rfl) rfl hb5 (c_X9_laysRetained h5) ?_
    refine hs_aload_n dX9_retainedObjects_22 0 rfl ?_
    obtain ⟨r6, h6, h⟩ := hb_bind h
    refine hs_getR dX9_retainedObjects_23 lkX9_31 rfl h6 ?_
    refine hs_iload_n dX9_retainedObjects_26 1 rfl ?_
    obtain ⟨r7, h7, h⟩ := hb_bind h
    refine hs_lald dX9_retainedObjects_27 h7 ?_
    obtain ⟨r8, h8, h⟩ := hb_bind h
    refine hs_callSi (μ' := mX9_bits) (mc := 0) (ms := 0) (rc := 0) (rs := 0) (As := [.long r7]) (rest := []) dX9_retainedObjects_28 lmX9_211 okX9_bits rfl (by decide) rfl (Nat.le_of_ble_eq_true rfl) (c_X9_bits h8) ?_
    obtain rfl := Option.some.inj h
    exact hs_ireturn dX9_retainedObjects_31 rfl (by rfl) (fun _ => rfl)
  · rw [if_neg hc4] at h
    refine hs_iconst (v := (0 : Int32)) dX9_retainedObjects_16 (by decide) ?_
    obtain rfl := Option.some.inj h
    exact hs_ireturn dX9_retainedObjects_17 rfl (by rfl) (fun _ => rfl)
def mX9_laysLeads : hb_Y := (yX9_laysLeads, cX9_laysLeads, 3, none, [], false)
theorem okX9_laysLeads : hb_okV mX9_laysLeads 0 := ⟨⟨hb_w 11 (by decide +kernel) (by decide +kernel), hb_w 1684 (by decide +kernel) (by decide +kernel), ⟨by decide +kernel, by decide +kernel, by decide +kernel⟩, by decide⟩, hb_w 1683 (by decide +kernel) (by decide +kernel), hb_wp (q := (yX9_laysLeads, 29)) 68 (by decide +kernel) (by decide +kernel)⟩
set_option maxHeartbeats 4000000 in
set_option maxRecDepth 20000 in
theorem c_X9_laysLeads_b91 {G : hb_G} {l : Launch} {z : Bool}  (k45 : Nat → Int32 → hb_M → Option hb_M) (hk45 : ∀ (x0 : Nat) (x1 : Int32) (σ : hb_M) (r : hb_M), k45 x0 x1 σ = some r → hb_T G l z mX9_laysLeads 2 0 0 45 [(0, .ref x0), (1, .int x1)] [] σ (.inl none, r)) (k53 : Nat → Int32 → Int32 → hb_M → Option hb_M) (hk53 : ∀ (x0 : Nat) (x1 : Int32) (x2 : Int32) (σ : hb_M) (r : hb_M), k53 x0 x1 x2 σ = some r → hb_T G l z mX9_laysLeads 2 0 0 53 [(0, .ref x0), (1, .int x1), (2, .int x2)] [] σ (.inl none, r))  {x0 : Nat} {x1 : Int32} {x2 : Int32} {s0 : Nat} {s1 : Int32} {s2 : Int64} {s3 : Int64} {σ : hb_M} {r : hb_M} (h : f_X9_laysLeads_b91 k45 k53 x0 x1 x2 s0 s1 s2 s3 σ = some r) : hb_T G l z mX9_laysLeads 2 0 0 91 [(0, .ref x0), (1, .int x1), (2, .int x2)] [.long s3, .long s2, .int s1, .ref s0] σ (.inl none, r) := by
  unfold f_X9_laysLeads_b91 at h
  refine hs_lor dX9_laysLeads_91 ?_
  obtain ⟨r1, h1, h⟩ := hb_bind h
  refine hs_last dX9_laysLeads_92 h1 ?_
  refine hs_iinc2 (k := (1 : Int32)) (lv' := [(2, .int (x2 + (1 : Int32))), (0, .ref x0), (1, .int x1)]) dX9_laysLeads_93 (by decide) 2 rfl (by decide) rfl ?_
  refine hs_goto (tgt := 53) dX9_laysLeads_96 (by decide) ?_
  refine hs_sub (lv' := [(0, .ref x0), (1, .int x1), (2, .int (x2 + (1 : Int32)))]) [1, 2, 0] rfl ?_
  exact hk53 _ _ _ _ _ h
set_option maxHeartbeats 4000000 in
set_option maxRecDepth 20000 in
theorem c_X9_laysLeads_b53 {G : hb_G} {l : Launch} {z : Bool}  (k45 : Nat → Int32 → hb_M → Option hb_M) (hk45 : ∀ (x0 : Nat) (x1 : Int32) (σ : hb_M) (r : hb_M), k45 x0 x1 σ = some r → hb_T G l z mX9_laysLeads 2 0 0 45 [(0, .ref x0), (1, .int x1)] [] σ (.inl none, r)) : ∀ (n : Nat) (x0 : Nat) (x1 : Int32) (x2 : Int32) (σ : hb_M) (r : hb_M), f_X9_laysLeads_b53 k45 n x0 x1 x2 σ = some r → hb_T G l z mX9_laysLeads 2 0 0 53 [(0, .ref x0), (1, .int x1), (2, .int x2)] [] σ (.inl none, r) := by
  intro n
  induction n with
  | zero =>
    intro x0 x1 x2 σ r h
    cases h
  | succ n ih =>
    intro x0 x1 x2 σ r h
    rw [f_X9_laysLeads_b53] at h
    refine hs_iload_n dX9_laysLeads_53 2 rfl ?_
    refine hs_bipush (v := (40 : Int32)) dX9_laysLeads_54 (by decide) ?_
    refine hs_icmp_ge (tgt := 99) dX9_laysLeads_56 (by decide) (fun hc1 => ?_) (fun hc1 => ?_)
    · rw [if_pos hc1] at h
      refine hs_iinc2 (k := (1 : Int32)) (lv' := [(1, .int (x1 + (1 : Int32))), (0, .ref x0), (2, .int x2)]) dX9_laysLeads_99 (by decide) 1 rfl (by decide) rfl ?_
      refine hs_goto (tgt := 45) dX9_laysLeads_102 (by decide) ?_
      refine hs_sub (lv' := [(0, .ref x0), (1, .int (x1 + (1 : Int32)))]) [1, 0] rfl ?_
      exact hk45 _ _ _ _ h
    · rw [if_neg hc1] at h
      refine hs_aload_n dX9_laysLeads_59 0 rfl ?_
      obtain ⟨r2, h2, h⟩ := hb_bind h
      refine hs_getR dX9_laysLeads_60 lkX9_41 rfl h2 ?_
      refine hs_iload_n dX9_laysLeads_63 2 rfl ?_
      refine hs_dup2 dX9_laysLeads_64 rfl rfl ?_
      obtain ⟨r3, h3, h⟩ := hb_bind h
      refine hs_lald dX9_laysLeads_65 h3 ?_
      refine hs_aload_n dX9_laysLeads_66 0 rfl ?_
      obtain ⟨r4, h4, h⟩ := hb_bind h
      refine hs_getR dX9_laysLeads_67 lkX9_41 rfl h4 ?_
      refine hs_iload_n dX9_laysLeads_70 2 rfl ?_
      obtain ⟨r5, h5, h⟩ := hb_bind h
      refine hs_lald dX9_laysLeads_71 h5 ?_
      refine hs_iload_n dX9_laysLeads_72 1 rfl ?_
      refine hs_lshr dX9_laysLeads_73 ?_
      refine hs_lconst (v := (1 : Int64)) dX9_laysLeads_74 (by decide) ?_
      refine hs_land dX9_laysLeads_75 ?_
      refine hs_lconst (v := (1 : Int64)) dX9_laysLeads_76 (by decide) ?_
      refine hs_lcmp dX9_laysLeads_77 ?_
      refine hs_if_ne (tgt := 90) dX9_laysLeads_78 (by decide) (fun hc6 => ?_) (fun hc6 => ?_)
      · rw [if_neg hc6] at h
        refine hs_lconst (v := (0 : Int64)) dX9_laysLeads_90 (by decide) ?_
        refine hs_sub (lv' := [(0, .ref x0), (1, .int x1), (2, .int x2)]) [0, 1, 2] rfl ?_
        exact c_X9_laysLeads_b91 k45 hk45 (f_X9_laysLeads_b53 k45 n) ih h
      · rw [if_pos hc6] at h
        refine hs_aload_n dX9_laysLeads_81 0 rfl ?_
        obtain ⟨r7, h7, h⟩ := hb_bind h
        refine hs_getR dX9_laysLeads_82 lkX9_41 rfl h7 ?_
        refine hs_iload_n dX9_laysLeads_85 1 rfl ?_
        obtain ⟨r8, h8, h⟩ := hb_bind h
        refine hs_lald dX9_laysLeads_86 h8 ?_
        refine hs_goto (tgt := 91) dX9_laysLeads_87 (by decide) ?_
        refine hs_sub (lv' := [(0, .ref x0), (1, .int x1), (2, .int x2)]) [0, 1, 2] rfl ?_
        exact c_X9_laysLeads_b91 k45 hk45 (f_X9_laysLeads_b53 k45 n) ih h
set_option maxHeartbeats 4000000 in
set_option maxRecDepth 20000 in
theorem c_X9_laysLeads_b45 {G : hb_G} {l : Launch} {z : Bool} : ∀ (n : Nat) (x0 : Nat) (x1 : Int32) (σ : hb_M) (r : hb_M), f_X9_laysLeads_b45 n x0 x1 σ = some r → hb_T G l z mX9_laysLeads 2 0 0 45 [(0, .ref x0), (1, .int x1)] [] σ (.inl none, r) := by
  intro n
  induction n with
  | zero =>
    intro x0 x1 σ r h
    cases h
  | succ n ih =>
    intro x0 x1 σ r h
    rw [f_X9_laysLeads_b45] at h
    refine hs_iload_n dX9_laysLeads_45 1 rfl ?_
    refine hs_bipush (v := (40 : Int32)) dX9_laysLeads_46 (by decide) ?_
    refine hs_icmp_ge (tgt := 105) dX9_laysLeads_48 (by decide) (fun hc1 => ?_) (fun hc1 => ?_)
    · rw [if_pos hc1] at h
      obtain rfl := Option.some.inj h
      exact hs_return dX9_laysLeads_105 rfl (fun _ => rfl)
    · rw [if_neg hc1] at h
      refine hs_iconst (v := (0 : Int32)) dX9_laysLeads_51 (by decide) ?_
      refine hs_istore_n (lv' := [(2, .int (0 : Int32)), (0, .ref x0), (1, .int x1)]) dX9_laysLeads_52 (by decide) rfl ?_
      refine hs_sub (lv' := [(0, .ref x0), (1, .int x1), (2, .int (0 : Int32))]) [1, 2, 0] rfl ?_
      exact c_X9_laysLeads_b53 (f_X9_laysLeads_b45 n) ih hb_FU _ _ _ _ _ h
set_option maxHeartbeats 4000000 in
set_option maxRecDepth 20000 in
theorem c_X9_laysLeads_b36 {G : hb_G} {l : Launch} {z : Bool}  (k2 : Nat → Int32 → hb_M → Option hb_M) (hk2 : ∀ (x0 : Nat) (x1 : Int32) (σ : hb_M) (r : hb_M), k2 x0 x1 σ = some r → hb_T G l z mX9_laysLeads 2 0 0 2 [(0, .ref x0), (1, .int x1)] [] σ (.inl none, r))  {x0 : Nat} {x1 : Int32} {s0 : Nat} {s1 : Int32} {s2 : Int64} {σ : hb_M} {r : hb_M} (h : f_X9_laysLeads_b36 k2 x0 x1 s0 s1 s2 σ = some r) : hb_T G l z mX9_laysLeads 2 0 0 36 [(0, .ref x0), (1, .int x1)] [.long s2, .int s1, .ref s0] σ (.inl none, r) := by
  unfold f_X9_laysLeads_b36 at h
  obtain ⟨r1, h1, h⟩ := hb_bind h
  refine hs_last dX9_laysLeads_36 h1 ?_
  refine hs_iinc2 (k := (1 : Int32)) (lv' := [(1, .int (x1 + (1 : Int32))), (0, .ref x0)]) dX9_laysLeads_37 (by decide) 1 rfl (by decide) rfl ?_
  refine hs_goto (tgt := 2) dX9_laysLeads_40 (by decide) ?_
  refine hs_sub (lv' := [(0, .ref x0), (1, .int (x1 + (1 : Int32)))]) [1, 0] rfl ?_
  exact hk2 _ _ _ _ h
set_option maxHeartbeats 4000000 in
set_option maxRecDepth 20000 in
theorem c_X9_laysLeads_b2 {G : hb_G} {l : Launch} {z : Bool} : ∀ (n : Nat) (x0 : Nat) (x1 : Int32) (σ : hb_M) (r : hb_M), f_X9_laysLeads_b2 n x0 x1 σ = some r → hb_T G l z mX9_laysLeads 2 0 0 2 [(0, .ref x0), (1, .int x1)] [] σ (.inl none, r) := by
  intro n
  induction n with
  | zero =>
    intro x0 x1 σ r h
    cases h
  | succ n ih =>
    intro x0 x1 σ r h
    rw [f_X9_laysLeads_b2] at h
    refine hs_iload_n dX9_laysLeads_2 1 rfl ?_
    refine hs_bipush (v := (40 : Int32)) dX9_laysLeads_3 (by decide) ?_
    refine hs_icmp_ge (tgt := 43) dX9_laysLeads_5 (by decide) (fun hc1 => ?_) (fun hc1 => ?_)
    · rw [if_pos hc1] at h
      refine hs_iconst (v := (0 : Int32)) dX9_laysLeads_43 (by decide) ?_
      refine hs_istore_n (lv' := [(1, .int (0 : Int32)), (0, .ref x0)]) dX9_laysLeads_44 (by decide) rfl ?_
      refine hs_sub (lv' := [(0, .ref x0), (1, .int (0 : Int32))]) [1, 0] rfl ?_
      exact c_X9_laysLeads_b45 hb_FU _ _ _ _ h
    · rw [if_neg hc1] at h
      refine hs_aload_n dX9_laysLeads_8 0 rfl ?_
      obtain ⟨r2, h2, h⟩ := hb_bind h
      refine hs_getR dX9_laysLeads_9 lkX9_41 rfl h2 ?_
      refine hs_iload_n dX9_laysLeads_12 1 rfl ?_
      refine hs_aload_n dX9_laysLeads_13 0 rfl ?_
      refine hs_iload_n dX9_laysLeads_14 1 rfl ?_
      obtain ⟨r3, h3, h⟩ := hb_bind h
      obtain ⟨h3, nf3, hb3⟩ := hb_on_at h3
      refine hs_callVi (μ' := mX9_isObject) (mc := 0) (ms := 0) (rc := 0) (rs := 0) (As := [.int x1]) (rest := [.int x1, .ref r2]) (ci := 9) dX9_laysLeads_15 lmX9_106 okX9_isObject rfl (by decide) rfl (Nat.le_of_ble_eq_true rfl) rfl hb3 (c_X9_isObject h3) ?_
      refine hs_if_eq (tgt := 35) dX9_laysLeads_18 (by decide) (fun hc4 => ?_) (fun hc4 => ?_)
      · rw [if_pos hc4] at h
        refine hs_lconst (v := (0 : Int64)) dX9_laysLeads_35 (by decide) ?_
        refine hs_sub (lv' := [(0, .ref x0), (1, .int x1)]) [0, 1] rfl ?_
        exact c_X9_laysLeads_b36 (f_X9_laysLeads_b2 n) ih h
      · rw [if_neg hc4] at h
        refine hs_aload_n dX9_laysLeads_21 0 rfl ?_
        refine hs_iload_n dX9_laysLeads_22 1 rfl ?_
        refine hs_iconst (v := (-1 : Int32)) dX9_laysLeads_23 (by decide) ?_
        refine hs_iconst (v := (-1 : Int32)) dX9_laysLeads_24 (by decide) ?_
        obtain ⟨r5, h5, h⟩ := hb_bind h
        obtain ⟨h5, nf5, hb5⟩ := hb_on_at h5
        refine hs_callVl (μ' := mX9_refersTo) (mc := 0) (ms := 0) (rc := 0) (rs := 0) (As := [.int x1, .int (-1 : Int32), .int (-1 : Int32)]) (rest := [.int x1, .ref r2]) (ci := 9) dX9_laysLeads_25 lmX9_174 okX9_refersTo rfl (by decide) rfl (Nat.le_of_ble_eq_true rfl) rfl hb5 (c_X9_refersTo h5) ?_
        refine hs_lconst (v := (1 : Int64)) dX9_laysLeads_28 (by decide) ?_
        refine hs_iload_n dX9_laysLeads_29 1 rfl ?_
        refine hs_lshl dX9_laysLeads_30 ?_
        refine hs_lor dX9_laysLeads_31 ?_
        refine hs_goto (tgt := 36) dX9_laysLeads_32 (by decide) ?_
        refine hs_sub (lv' := [(0, .ref x0), (1, .int x1)]) [0, 1] rfl ?_
        exact c_X9_laysLeads_b36 (f_X9_laysLeads_b2 n) ih h
set_option maxHeartbeats 4000000 in
set_option maxRecDepth 20000 in
theorem c_X9_laysLeads {G : hb_G} {l : Launch} {z : Bool} {x0 : Nat} {σ : hb_M} {r : hb_M} (h : f_X9_laysLeads x0 σ = some r) : hb_Call G l z 2 0 0 mX9_laysLeads [.ref x0] σ (.inl none, r) := by
  refine hb_met (by decide) (Nat.le_of_ble_eq_true rfl) ?_
  unfold f_X9_laysLeads at h
  refine hs_iconst (v := (0 : Int32)) dX9_laysLeads_0 (by decide) ?_
  refine hs_istore_n (lv' := [(1, .int (0 : Int32)), (0, .ref x0)]) dX9_laysLeads_1 (by decide) rfl ?_
  refine hs_sub (lv' := [(0, .ref x0), (1, .int (0 : Int32))]) [1, 0] rfl ?_
  exact c_X9_laysLeads_b2 hb_FU _ _ _ _ h
def mX9_componentOf : hb_Y := (yX9_componentOf, cX9_componentOf, 5, (some .long), [], false)
theorem okX9_componentOf : hb_okV mX9_componentOf 1 := ⟨⟨hb_w 11 (by decide +kernel) (by decide +kernel), hb_w 1688 (by decide +kernel) (by decide +kernel), ⟨by decide +kernel, by decide +kernel, by decide +kernel⟩, by decide⟩, hb_w 1687 (by decide +kernel) (by decide +kernel), hb_wp (q := (yX9_componentOf, 29)) 69 (by decide +kernel) (by decide +kernel)⟩
set_option maxHeartbeats 4000000 in
set_option maxRecDepth 20000 in
theorem c_X9_componentOf_b53 {G : hb_G} {l : Launch} {z : Bool}  (k5 : Nat → Int32 → Int64 → Int32 → hb_M → Option (Int64 × hb_M)) (hk5 : ∀ (x0 : Nat) (x1 : Int32) (x2 : Int64) (x4 : Int32) (σ : hb_M) (r : (Int64 × hb_M)), k5 x0 x1 x2 x4 σ = some r → hb_T G l z mX9_componentOf 0 0 0 5 [(0, .ref x0), (1, .int x1), (2, .long x2), (4, .int x4)] [] σ (.inl (some (.long r.1)), r.2))  {x0 : Nat} {x1 : Int32} {x4 : Int32} {s0 : Int64} {s1 : Int64} {σ : hb_M} {r : (Int64 × hb_M)} (h : f_X9_componentOf_b53 k5 x0 x1 x4 s0 s1 σ = some r) : hb_T G l z mX9_componentOf 0 0 0 53 [(0, .ref x0), (1, .int x1), (4, .int x4)] [.long s1, .long s0] σ (.inl (some (.long r.1)), r.2) := by
  unfold f_X9_componentOf_b53 at h
  refine hs_lor dX9_componentOf_53 ?_
  refine hs_lstore_n (lv' := [(2, .long (s0 ||| s1)), (0, .ref x0), (1, .int x1), (4, .int x4)]) dX9_componentOf_54 (by decide) rfl ?_
  refine hs_iinc2 (k := (1 : Int32)) (lv' := [(4, .int (x4 + (1 : Int32))), (2, .long (s0 ||| s1)), (0, .ref x0), (1, .int x1)]) dX9_componentOf_55 (by decide) 3 rfl (by decide) rfl ?_
  refine hs_goto (tgt := 5) dX9_componentOf_58 (by decide) ?_
  refine hs_sub (lv' := [(0, .ref x0), (1, .int x1), (2, .long (s0 ||| s1)), (4, .int (x4 + (1 : Int32)))]) [2, 3, 1, 0] rfl ?_
  exact hk5 _ _ _ _ _ _ h
set_option maxHeartbeats 4000000 in
set_option maxRecDepth 20000 in
theorem c_X9_componentOf_b52 {G : hb_G} {l : Launch} {z : Bool}  (k5 : Nat → Int32 → Int64 → Int32 → hb_M → Option (Int64 × hb_M)) (hk5 : ∀ (x0 : Nat) (x1 : Int32) (x2 : Int64) (x4 : Int32) (σ : hb_M) (r : (Int64 × hb_M)), k5 x0 x1 x2 x4 σ = some r → hb_T G l z mX9_componentOf 0 0 0 5 [(0, .ref x0), (1, .int x1), (2, .long x2), (4, .int x4)] [] σ (.inl (some (.long r.1)), r.2))  {x0 : Nat} {x1 : Int32} {x4 : Int32} {s0 : Int64} {σ : hb_M} {r : (Int64 × hb_M)} (h : f_X9_componentOf_b52 k5 x0 x1 x4 s0 σ = some r) : hb_T G l z mX9_componentOf 0 0 0 52 [(0, .ref x0), (1, .int x1), (4, .int x4)] [.long s0] σ (.inl (some (.long r.1)), r.2) := by
  unfold f_X9_componentOf_b52 at h
  refine hs_lconst (v := (0 : Int64)) dX9_componentOf_52 (by decide) ?_
  refine hs_sub (lv' := [(0, .ref x0), (1, .int x1), (4, .int x4)]) [0, 1, 2] rfl ?_
  exact c_X9_componentOf_b53 k5 hk5 h
set_option maxHeartbeats 4000000 in
set_option maxRecDepth 20000 in
theorem c_X9_componentOf_b5 {G : hb_G} {l : Launch} {z : Bool} : ∀ (n : Nat) (x0 : Nat) (x1 : Int32) (x2 : Int64) (x4 : Int32) (σ : hb_M) (r : (Int64 × hb_M)), f_X9_componentOf_b5 n x0 x1 x2 x4 σ = some r → hb_T G l z mX9_componentOf 0 0 0 5 [(0, .ref x0), (1, .int x1), (2, .long x2), (4, .int x4)] [] σ (.inl (some (.long r.1)), r.2) := by
  intro n
  induction n with
  | zero =>
    intro x0 x1 x2 x4 σ r h
    cases h
  | succ n ih =>
    intro x0 x1 x2 x4 σ r h
    rw [f_X9_componentOf_b5] at h
    refine hs_iload dX9_componentOf_5 3 rfl ?_
    refine hs_bipush (v := (40 : Int32)) dX9_componentOf_7 (by decide) ?_
    refine hs_icmp_ge (tgt := 61) dX9_componentOf_9 (by decide) (fun hc1 => ?_) (fun hc1 => ?_)
    · rw [if_pos hc1] at h
      refine hs_lload_n dX9_componentOf_61 2 rfl ?_
      obtain rfl := Option.some.inj h
      exact hs_lreturn dX9_componentOf_62 rfl (fun _ => rfl)
    · rw [if_neg hc1] at h
      refine hs_lload_n dX9_componentOf_12 2 rfl ?_
      refine hs_aload_n dX9_componentOf_13 0 rfl ?_
      obtain ⟨r2, h2, h⟩ := hb_bind h
      refine hs_getR dX9_componentOf_14 lkX9_41 rfl h2 ?_
      refine hs_iload_n dX9_componentOf_17 1 rfl ?_
      obtain ⟨r3, h3, h⟩ := hb_bind h
      refine hs_lald dX9_componentOf_18 h3 ?_
      refine hs_iload dX9_componentOf_19 3 rfl ?_
      refine hs_lshr dX9_componentOf_21 ?_
      refine hs_lconst (v := (1 : Int64)) dX9_componentOf_22 (by decide) ?_
      refine hs_land dX9_componentOf_23 ?_
      refine hs_lconst (v := (1 : Int64)) dX9_componentOf_24 (by decide) ?_
      refine hs_lcmp dX9_componentOf_25 ?_
      refine hs_if_ne (tgt := 52) dX9_componentOf_26 (by decide) (fun hc4 => ?_) (fun hc4 => ?_)
      · rw [if_neg hc4] at h
        refine hs_sub (lv' := [(0, .ref x0), (1, .int x1), (4, .int x4)]) [0, 1, 3] rfl ?_
        exact c_X9_componentOf_b52 (f_X9_componentOf_b5 n) ih h
      · rw [if_pos hc4] at h
        refine hs_aload_n dX9_componentOf_29 0 rfl ?_
        obtain ⟨r5, h5, h⟩ := hb_bind h
        refine hs_getR dX9_componentOf_30 lkX9_41 rfl h5 ?_
        refine hs_iload dX9_componentOf_33 3 rfl ?_
        obtain ⟨r6, h6, h⟩ := hb_bind h
        refine hs_lald dX9_componentOf_35 h6 ?_
        refine hs_iload_n dX9_componentOf_36 1 rfl ?_
        refine hs_lshr dX9_componentOf_37 ?_
        refine hs_lconst (v := (1 : Int64)) dX9_componentOf_38 (by decide) ?_
        refine hs_land dX9_componentOf_39 ?_
        refine hs_lconst (v := (1 : Int64)) dX9_componentOf_40 (by decide) ?_
        refine hs_lcmp dX9_componentOf_41 ?_
        refine hs_if_ne (tgt := 52) dX9_componentOf_42 (by decide) (fun hc7 => ?_) (fun hc7 => ?_)
        · rw [if_neg hc7] at h
          refine hs_sub (lv' := [(0, .ref x0), (1, .int x1), (4, .int x4)]) [0, 1, 3] rfl ?_
          exact c_X9_componentOf_b52 (f_X9_componentOf_b5 n) ih h
        · rw [if_pos hc7] at h
          refine hs_lconst (v := (1 : Int64)) dX9_componentOf_45 (by decide) ?_
          refine hs_iload dX9_componentOf_46 3 rfl ?_
          refine hs_lshl dX9_componentOf_48 ?_
          refine hs_goto (tgt := 53) dX9_componentOf_49 (by decide) ?_
          refine hs_sub (lv' := [(0, .ref x0), (1, .int x1), (4, .int x4)]) [0, 1, 3] rfl ?_
          exact c_X9_componentOf_b53 (f_X9_componentOf_b5 n) ih h
set_option maxHeartbeats 4000000 in
set_option maxRecDepth 20000 in
theorem c_X9_componentOf {G : hb_G} {l : Launch} {z : Bool} {x0 : Nat} {x1 : Int32} {σ : hb_M} {r : (Int64 × hb_M)} (h : f_X9_componentOf x0 x1 σ = some r) : hb_Call G l z 0 0 0 mX9_componentOf [.ref x0, .int x1] σ (.inl (some (.long r.1)), r.2) := by
  refine hb_met (by decide) (Nat.le_of_ble_eq_true rfl) ?_
  unfold f_X9_componentOf at h
  refine hs_lconst (v := (0 : Int64)) dX9_componentOf_0 (by decide) ?_
  refine hs_lstore_n (lv' := [(2, .long (0 : Int64)), (0, .ref x0), (1, .int x1)]) dX9_componentOf_1 (by decide) rfl ?_
  refine hs_iconst (v := (0 : Int32)) dX9_componentOf_2 (by decide) ?_
  refine hs_istore (lv' := [(4, .int (0 : Int32)), (2, .long (0 : Int64)), (0, .ref x0), (1, .int x1)]) dX9_componentOf_3 (by decide) rfl ?_
  refine hs_sub (lv' := [(0, .ref x0), (1, .int x1), (2, .long (0 : Int64)), (4, .int (0 : Int32))]) [2, 3, 1, 0] rfl ?_
  exact c_X9_componentOf_b5 hb_FU _ _ _ _ _ _ h
def mX9_component : hb_Y := (yX9_component, cX9_component, 2, (some .int), [], false)
set_option maxHeartbeats 4000000 in
set_option maxRecDepth 20000 in
theorem c_X9_component {G : hb_G} {l : Launch} {z : Bool} {x0 : Nat} {x1 : Int32} {σ : hb_M} {r : (Int32 × hb_M)} (h : f_X9_component x0 x1 σ = some r) : hb_Call G l z 3 0 0 mX9_component [.ref x0, .int x1] σ (.inl (some (.int r.1)), r.2) := by
  refine hb_met (by decide) (Nat.le_of_ble_eq_true rfl) ?_
  unfold f_X9_component at h
  refine hs_aload_n dX9_component_0 0 rfl ?_
  refine hs_aload_n dX9_component_1 0 rfl ?_
  refine hs_aload_n dX9_component_2 0 rfl ?_
  refine hs_iload_n dX9_component_3 1 rfl ?_
  obtain ⟨r1, h1, h⟩ := hb_bind h
  obtain ⟨h1, nf1, hb1⟩ := hb_on_at h1
  refine hs_callVi (μ' := mX9_isObject) (mc := 0) (ms := 0) (rc := 0) (rs := 0) (As := [.int x1]) (rest := [.ref x0, .ref x0]) (ci := 9) dX9_component_4 lmX9_106 okX9_isObject rfl (by decide) rfl (Nat.le_of_ble_eq_true rfl) rfl hb1 (c_X9_isObject h1) ?_
  obtain ⟨r2, h2, h⟩ := hb_bind h
  obtain ⟨h2, nf2, hb2⟩ := hb_on_at h2
  refine hs_callVi (μ' := mX9_need) (mc := 0) (ms := 0) (rc := 0) (rs := 0) (As := [.int r1.1]) (rest := [.ref x0]) (ci := 9) dX9_component_7 lmX9_187 okX9_need rfl (by decide) rfl (Nat.le_of_ble_eq_true rfl) rfl hb2 (c_X9_need h2) ?_
  obtain ⟨r3, h3, h⟩ := hb_bind h
  obtain ⟨h3, nf3, hb3⟩ := hb_on_at h3
  refine hs_callVi (μ' := mX9_refused) (mc := 0) (ms := 0) (rc := 0) (rs := 0) (As := [.int r2.1]) (rest := []) (ci := 9) dX9_component_10 lmX9_74 okX9_refused rfl (by decide) rfl (Nat.le_of_ble_eq_true rfl) rfl hb3 (c_X9_refused h3) ?_
  refine hs_if_eq (tgt := 18) dX9_component_13 (by decide) (fun hc4 => ?_) (fun hc4 => ?_)
  · rw [if_pos hc4] at h
    refine hs_aload_n dX9_component_18 0 rfl ?_
    obtain ⟨r5, h5, h⟩ := hb_bind h
    obtain ⟨h5, nf5, hb5⟩ := hb_on_at h5
    refine hs_callVv (μ' := mX9_laysLeads) (mc := 0) (ms := 0) (rc := 0) (rs := 0) (As := []) (rest := []) (ci := 9) dX9_component_19 lmX9_214 okX9_laysLeads rfl (by decide) rfl (Nat.le_of_ble_eq_true rfl) rfl hb5 (c_X9_laysLeads h5) ?_
    refine hs_aload_n dX9_component_22 0 rfl ?_
    refine hs_iload_n dX9_component_23 1 rfl ?_
    obtain ⟨r6, h6, h⟩ := hb_bind h
    obtain ⟨h6, nf6, hb6⟩ := hb_on_at h6
    refine hs_callVl (μ' := mX9_componentOf) (mc := 0) (ms := 0) (rc := 0) (rs := 0) (As := [.int x1]) (rest := []) (ci := 9) dX9_component_24 lmX9_217 okX9_componentOf rfl (by decide) rfl (Nat.le_of_ble_eq_true rfl) rfl hb6 (c_X9_componentOf h6) ?_
    obtain ⟨r7, h7, h⟩ := hb_bind h
    refine hs_callSi (μ' := mX9_first) (mc := 0) (ms := 0) (rc := 0) (rs := 0) (As := [.long r6.1]) (rest := []) dX9_component_27 lmX9_194 okX9_first rfl (by decide) rfl (Nat.le_of_ble_eq_true rfl) (c_X9_first h7) ?_
    obtain rfl := Option.some.inj h
    exact hs_ireturn dX9_component_30 rfl (by rfl) (fun _ => rfl)
  · rw [if_neg hc4] at h
    refine hs_iconst (v := (0 : Int32)) dX9_component_16 (by decide) ?_
    obtain rfl := Option.some.inj h
    exact hs_ireturn dX9_component_17 rfl (by rfl) (fun _ => rfl)
def mX9_componentSize : hb_Y := (yX9_componentSize, cX9_componentSize, 2, (some .int), [], false)
set_option maxHeartbeats 4000000 in
set_option maxRecDepth 20000 in
theorem c_X9_componentSize {G : hb_G} {l : Launch} {z : Bool} {x0 : Nat} {x1 : Int32} {σ : hb_M} {r : (Int32 × hb_M)} (h : f_X9_componentSize x0 x1 σ = some r) : hb_Call G l z 3 0 0 mX9_componentSize [.ref x0, .int x1] σ (.inl (some (.int r.1)), r.2) := by
  refine hb_met (by decide) (Nat.le_of_ble_eq_true rfl) ?_
  unfold f_X9_componentSize at h
  refine hs_aload_n dX9_componentSize_0 0 rfl ?_
  refine hs_aload_n dX9_componentSize_1 0 rfl ?_
  refine hs_aload_n dX9_componentSize_2 0 rfl ?_
  refine hs_iload_n dX9_componentSize_3 1 rfl ?_
  obtain ⟨r1, h1, h⟩ := hb_bind h
  obtain ⟨h1, nf1, hb1⟩ := hb_on_at h1
  refine hs_callVi (μ' := mX9_isObject) (mc := 0) (ms := 0) (rc := 0) (rs := 0) (As := [.int x1]) (rest := [.ref x0, .ref x0]) (ci := 9) dX9_componentSize_4 lmX9_106 okX9_isObject rfl (by decide) rfl (Nat.le_of_ble_eq_true rfl) rfl hb1 (c_X9_isObject h1) ?_
  obtain ⟨r2, h2, h⟩ := hb_bind h
  obtain ⟨h2, nf2, hb2⟩ := hb_on_at h2
  refine hs_callVi (μ' := mX9_need) (mc := 0) (ms := 0) (rc := 0) (rs := 0) (As := [.int r1.1]) (rest := [.ref x0]) (ci := 9) dX9_componentSize_7 lmX9_187 okX9_need rfl (by decide) rfl (Nat.le_of_ble_eq_true rfl) rfl hb2 (c_X9_need h2) ?_
  obtain ⟨r3, h3, h⟩ := hb_bind h
  obtain ⟨h3, nf3, hb3⟩ := hb_on_at h3
  refine hs_callVi (μ' := mX9_refused) (mc := 0) (ms := 0) (rc := 0) (rs := 0) (As := [.int r2.1]) (rest := []) (ci := 9) dX9_componentSize_10 lmX9_74 okX9_refused rfl (by decide) rfl (Nat.le_of_ble_eq_true rfl) rfl hb3 (c_X9_refused h3) ?_
  refine hs_if_eq (tgt := 18) dX9_componentSize_13 (by decide) (fun hc4 => ?_) (fun hc4 => ?_)
  · rw [if_pos hc4] at h
    refine hs_aload_n dX9_componentSize_18 0 rfl ?_
    obtain ⟨r5, h5, h⟩ := hb_bind h
    obtain ⟨h5, nf5, hb5⟩ := hb_on_at h5
    refine hs_callVv (μ' := mX9_laysLeads) (mc := 0) (ms := 0) (rc := 0) (rs := 0) (As := []) (rest := []) (ci := 9) dX9_componentSize_19 lmX9_214 okX9_laysLeads rfl (by decide) rfl (Nat.le_of_ble_eq_true rfl) rfl hb5 (c_X9_laysLeads h5) ?_
    refine hs_aload_n dX9_componentSize_22 0 rfl ?_
    refine hs_iload_n dX9_componentSize_23 1 rfl ?_
    obtain ⟨r6, h6, h⟩ := hb_bind h
    obtain ⟨h6, nf6, hb6⟩ := hb_on_at h6
    refine hs_callVl (μ' := mX9_componentOf) (mc := 0) (ms := 0) (rc := 0) (rs := 0) (As := [.int x1]) (rest := []) (ci := 9) dX9_componentSize_24 lmX9_217 okX9_componentOf rfl (by decide) rfl (Nat.le_of_ble_eq_true rfl) rfl hb6 (c_X9_componentOf h6) ?_
    obtain ⟨r7, h7, h⟩ := hb_bind h
    refine hs_callSi (μ' := mX9_bits) (mc := 0) (ms := 0) (rc := 0) (rs := 0) (As := [.long r6.1]) (rest := []) dX9_componentSize_27 lmX9_211 okX9_bits rfl (by decide) rfl (Nat.le_of_ble_eq_true rfl) (c_X9_bits h7) ?_
    obtain rfl := Option.some.inj h
    exact hs_ireturn dX9_componentSize_30 rfl (by rfl) (fun _ => rfl)
  · rw [if_neg hc4] at h
    refine hs_iconst (v := (0 : Int32)) dX9_componentSize_16 (by decide) ?_
    obtain rfl := Option.some.inj h
    exact hs_ireturn dX9_componentSize_17 rfl (by rfl) (fun _ => rfl)
def mX9_freedByClearing : hb_Y := (yX9_freedByClearing, cX9_freedByClearing, 3, (some .int), [], false)
set_option maxHeartbeats 4000000 in
set_option maxRecDepth 20000 in
theorem c_X9_freedByClearing {G : hb_G} {l : Launch} {z : Bool} {x0 : Nat} {x1 : Int32} {x2 : Int32} {σ : hb_M} {r : (Int32 × hb_M)} (h : f_X9_freedByClearing x0 x1 x2 σ = some r) : hb_Call G l z 4 0 0 mX9_freedByClearing [.ref x0, .int x1, .int x2] σ (.inl (some (.int r.1)), r.2) := by
  refine hb_met (by decide) (Nat.le_of_ble_eq_true rfl) ?_
  unfold f_X9_freedByClearing at h
  refine hs_aload_n dX9_freedByClearing_0 0 rfl ?_
  refine hs_aload_n dX9_freedByClearing_1 0 rfl ?_
  refine hs_aload_n dX9_freedByClearing_2 0 rfl ?_
  refine hs_iload_n dX9_freedByClearing_3 1 rfl ?_
  refine hs_iload_n dX9_freedByClearing_4 2 rfl ?_
  obtain ⟨r1, h1, h⟩ := hb_bind h
  obtain ⟨h1, nf1, hb1⟩ := hb_on_at h1
  refine hs_callVi (μ' := mX9_isSlot) (mc := 0) (ms := 0) (rc := 0) (rs := 0) (As := [.int x1, .int x2]) (rest := [.ref x0, .ref x0]) (ci := 9) dX9_freedByClearing_5 lmX9_125 okX9_isSlot rfl (by decide) rfl (Nat.le_of_ble_eq_true rfl) rfl hb1 (c_X9_isSlot h1) ?_
  obtain ⟨r2, h2, h⟩ := hb_bind h
  obtain ⟨h2, nf2, hb2⟩ := hb_on_at h2
  refine hs_callVi (μ' := mX9_need) (mc := 0) (ms := 0) (rc := 0) (rs := 0) (As := [.int r1.1]) (rest := [.ref x0]) (ci := 9) dX9_freedByClearing_8 lmX9_187 okX9_need rfl (by decide) rfl (Nat.le_of_ble_eq_true rfl) rfl hb2 (c_X9_need h2) ?_
  obtain ⟨r3, h3, h⟩ := hb_bind h
  obtain ⟨h3, nf3, hb3⟩ := hb_on_at h3
  refine hs_callVi (μ' := mX9_refused) (mc := 0) (ms := 0) (rc := 0) (rs := 0) (As := [.int r2.1]) (rest := []) (ci := 9) dX9_freedByClearing_11 lmX9_74 okX9_refused rfl (by decide) rfl (Nat.le_of_ble_eq_true rfl) rfl hb3 (c_X9_refused h3) ?_
  refine hs_if_eq (tgt := 19) dX9_freedByClearing_14 (by decide) (fun hc4 => ?_) (fun hc4 => ?_)
  · rw [if_pos hc4] at h
    refine hs_aload_n dX9_freedByClearing_19 0 rfl ?_
    refine hs_aload_n dX9_freedByClearing_20 0 rfl ?_
    refine hs_lconst (v := (0 : Int64)) dX9_freedByClearing_21 (by decide) ?_
    refine hs_iconst (v := (-1 : Int32)) dX9_freedByClearing_22 (by decide) ?_
    refine hs_iconst (v := (-1 : Int32)) dX9_freedByClearing_23 (by decide) ?_
    refine hs_iconst (v := (-1 : Int32)) dX9_freedByClearing_24 (by decide) ?_
    obtain ⟨r5, h5, h⟩ := hb_bind h
    obtain ⟨h5, nf5, hb5⟩ := hb_on_at h5
    refine hs_callVl (μ' := mX9_reached) (mc := 0) (ms := 0) (rc := 0) (rs := 0) (As := [.long (0 : Int64), .int (-1 : Int32), .int (-1 : Int32), .int (-1 : Int32)]) (rest := [.ref x0]) (ci := 9) dX9_freedByClearing_25 lmX9_138 okX9_reached rfl (by decide) rfl (Nat.le_of_ble_eq_true rfl) rfl hb5 (c_X9_reached h5) ?_
    refine hs_aload_n dX9_freedByClearing_28 0 rfl ?_
    refine hs_lconst (v := (0 : Int64)) dX9_freedByClearing_29 (by decide) ?_
    refine hs_iload_n dX9_freedByClearing_30 1 rfl ?_
    refine hs_iload_n dX9_freedByClearing_31 2 rfl ?_
    refine hs_iconst (v := (-1 : Int32)) dX9_freedByClearing_32 (by decide) ?_
    obtain ⟨r6, h6, h⟩ := hb_bind h
    obtain ⟨h6, nf6, hb6⟩ := hb_on_at h6
    refine hs_callVl (μ' := mX9_reached) (mc := 0) (ms := 0) (rc := 0) (rs := 0) (As := [.long (0 : Int64), .int x1, .int x2, .int (-1 : Int32)]) (rest := [.long r5.1, .ref x0]) (ci := 9) dX9_freedByClearing_33 lmX9_138 okX9_reached rfl (by decide) rfl (Nat.le_of_ble_eq_true rfl) rfl hb6 (c_X9_reached h6) ?_
    refine hs_ldc2 (v := (-1 : Int64)) dX9_freedByClearing_36 wd_1558 ?_
    refine hs_lxor dX9_freedByClearing_39 ?_
    refine hs_land dX9_freedByClearing_40 ?_
    obtain ⟨r7, h7, h⟩ := hb_bind h
    obtain ⟨h7, nf7, hb7⟩ := hb_on_at h7
    refine hs_callVl (μ' := mX9_sizes) (mc := 0) (ms := 0) (rc := 0) (rs := 0) (As := [.long (r5.1 &&& (r6.1 ^^^ (-1 : Int64)))]) (rest := []) (ci := 9) dX9_freedByClearing_41 lmX9_204 okX9_sizes rfl (by decide) rfl (Nat.le_of_ble_eq_true rfl) rfl hb7 (c_X9_sizes h7) ?_
    refine hs_l2i dX9_freedByClearing_44 ?_
    obtain rfl := Option.some.inj h
    exact hs_ireturn dX9_freedByClearing_45 rfl (by rfl) (fun _ => rfl)
  · rw [if_neg hc4] at h
    refine hs_iconst (v := (0 : Int32)) dX9_freedByClearing_17 (by decide) ?_
    obtain rfl := Option.some.inj h
    exact hs_ireturn dX9_freedByClearing_18 rfl (by rfl) (fun _ => rfl)
def mX9_freedByUnrooting : hb_Y := (yX9_freedByUnrooting, cX9_freedByUnrooting, 2, (some .int), [], false)
set_option maxHeartbeats 4000000 in
set_option maxRecDepth 20000 in
theorem c_X9_freedByUnrooting {G : hb_G} {l : Launch} {z : Bool} {x0 : Nat} {x1 : Int32} {σ : hb_M} {r : (Int32 × hb_M)} (h : f_X9_freedByUnrooting x0 x1 σ = some r) : hb_Call G l z 4 0 0 mX9_freedByUnrooting [.ref x0, .int x1] σ (.inl (some (.int r.1)), r.2) := by
  refine hb_met (by decide) (Nat.le_of_ble_eq_true rfl) ?_
  unfold f_X9_freedByUnrooting at h
  refine hs_aload_n dX9_freedByUnrooting_0 0 rfl ?_
  refine hs_aload_n dX9_freedByUnrooting_1 0 rfl ?_
  refine hs_aload_n dX9_freedByUnrooting_2 0 rfl ?_
  refine hs_iload_n dX9_freedByUnrooting_3 1 rfl ?_
  obtain ⟨r1, h1, h⟩ := hb_bind h
  obtain ⟨h1, nf1, hb1⟩ := hb_on_at h1
  refine hs_callVi (μ' := mX9_isObject) (mc := 0) (ms := 0) (rc := 0) (rs := 0) (As := [.int x1]) (rest := [.ref x0, .ref x0]) (ci := 9) dX9_freedByUnrooting_4 lmX9_106 okX9_isObject rfl (by decide) rfl (Nat.le_of_ble_eq_true rfl) rfl hb1 (c_X9_isObject h1) ?_
  obtain ⟨r2, h2, h⟩ := hb_bind h
  obtain ⟨h2, nf2, hb2⟩ := hb_on_at h2
  refine hs_callVi (μ' := mX9_need) (mc := 0) (ms := 0) (rc := 0) (rs := 0) (As := [.int r1.1]) (rest := [.ref x0]) (ci := 9) dX9_freedByUnrooting_7 lmX9_187 okX9_need rfl (by decide) rfl (Nat.le_of_ble_eq_true rfl) rfl hb2 (c_X9_need h2) ?_
  obtain ⟨r3, h3, h⟩ := hb_bind h
  obtain ⟨h3, nf3, hb3⟩ := hb_on_at h3
  refine hs_callVi (μ' := mX9_refused) (mc := 0) (ms := 0) (rc := 0) (rs := 0) (As := [.int r2.1]) (rest := []) (ci := 9) dX9_freedByUnrooting_10 lmX9_74 okX9_refused rfl (by decide) rfl (Nat.le_of_ble_eq_true rfl) rfl hb3 (c_X9_refused h3) ?_
  refine hs_if_eq (tgt := 18) dX9_freedByUnrooting_13 (by decide) (fun hc4 => ?_) (fun hc4 => ?_)
  · rw [if_pos hc4] at h
    refine hs_aload_n dX9_freedByUnrooting_18 0 rfl ?_
    refine hs_aload_n dX9_freedByUnrooting_19 0 rfl ?_
    refine hs_lconst (v := (0 : Int64)) dX9_freedByUnrooting_20 (by decide) ?_
    refine hs_iconst (v := (-1 : Int32)) dX9_freedByUnrooting_21 (by decide) ?_
    refine hs_iconst (v := (-1 : Int32)) dX9_freedByUnrooting_22 (by decide) ?_
    refine hs_iconst (v := (-1 : Int32)) dX9_freedByUnrooting_23 (by decide) ?_
    obtain ⟨r5, h5, h⟩ := hb_bind h
    obtain ⟨h5, nf5, hb5⟩ := hb_on_at h5
    refine hs_callVl (μ' := mX9_reached) (mc := 0) (ms := 0) (rc := 0) (rs := 0) (As := [.long (0 : Int64), .int (-1 : Int32), .int (-1 : Int32), .int (-1 : Int32)]) (rest := [.ref x0]) (ci := 9) dX9_freedByUnrooting_24 lmX9_138 okX9_reached rfl (by decide) rfl (Nat.le_of_ble_eq_true rfl) rfl hb5 (c_X9_reached h5) ?_
    refine hs_aload_n dX9_freedByUnrooting_27 0 rfl ?_
    refine hs_lconst (v := (0 : Int64)) dX9_freedByUnrooting_28 (by decide) ?_
    refine hs_iconst (v := (-1 : Int32)) dX9_freedByUnrooting_29 (by decide) ?_
    refine hs_iconst (v := (-1 : Int32)) dX9_freedByUnrooting_30 (by decide) ?_
    refine hs_iload_n dX9_freedByUnrooting_31 1 rfl ?_
    obtain ⟨r6, h6, h⟩ := hb_bind h
    obtain ⟨h6, nf6, hb6⟩ := hb_on_at h6
    refine hs_callVl (μ' := mX9_reached) (mc := 0) (ms := 0) (rc := 0) (rs := 0) (As := [.long (0 : Int64), .int (-1 : Int32), .int (-1 : Int32), .int x1]) (rest := [.long r5.1, .ref x0]) (ci := 9) dX9_freedByUnrooting_32 lmX9_138 okX9_reached rfl (by decide) rfl (Nat.le_of_ble_eq_true rfl) rfl hb6 (c_X9_reached h6) ?_
    refine hs_ldc2 (v := (-1 : Int64)) dX9_freedByUnrooting_35 wd_1558 ?_
    refine hs_lxor dX9_freedByUnrooting_38 ?_
    refine hs_land dX9_freedByUnrooting_39 ?_
    obtain ⟨r7, h7, h⟩ := hb_bind h
    obtain ⟨h7, nf7, hb7⟩ := hb_on_at h7
    refine hs_callVl (μ' := mX9_sizes) (mc := 0) (ms := 0) (rc := 0) (rs := 0) (As := [.long (r5.1 &&& (r6.1 ^^^ (-1 : Int64)))]) (rest := []) (ci := 9) dX9_freedByUnrooting_40 lmX9_204 okX9_sizes rfl (by decide) rfl (Nat.le_of_ble_eq_true rfl) rfl hb7 (c_X9_sizes h7) ?_
    refine hs_l2i dX9_freedByUnrooting_43 ?_
    obtain rfl := Option.some.inj h
    exact hs_ireturn dX9_freedByUnrooting_44 rfl (by rfl) (fun _ => rfl)
  · rw [if_neg hc4] at h
    refine hs_iconst (v := (0 : Int32)) dX9_freedByUnrooting_16 (by decide) ?_
    obtain rfl := Option.some.inj h
    exact hs_ireturn dX9_freedByUnrooting_17 rfl (by rfl) (fun _ => rfl)
