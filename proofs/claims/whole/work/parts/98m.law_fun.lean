set_option maxHeartbeats 4000000 in
set_option maxRecDepth 20000 in
theorem c_L_law_b316 {G : hb_G} {l : Launch} (hl : l.stackTraces = false) {n : Nat}  (k23 : Nat → Nat → Nat → Int32 → hb_M → Option (Int32 × hb_M)) (hk23 : ∀ (x1 : Nat) (x2 : Nat) (x3 : Nat) (x4 : Int32) (σ : hb_M) (r : (Int32 × hb_M)), k23 x1 x2 x3 x4 σ = some r → hb_T G l true mL_law 83 (3 * n) (18 * n) 23 [(0, .retAddr 0), (1, .ref x1), (2, .ref x2), (3, .ref x3), (4, .int x4)] [] σ (.inl (some (.int r.1)), r.2))  {x1 : Nat} {x2 : Nat} {x3 : Nat} {x4 : Int32} {σ : hb_M} {r : (Int32 × hb_M)} (h : f_L_law_b316 G.2.2.2.2.1 G.2.2.2.2.2 k23 x1 x2 x3 x4 σ = some r) : hb_T G l true mL_law 83 (3 * n + 3) (18 * n + 18) 316 [(0, .retAddr 0), (1, .ref x1), (2, .ref x2), (3, .ref x3), (4, .int x4)] [] σ (.inl (some (.int r.1)), r.2) := by
  unfold f_L_law_b316 at h
  refine hs_aload_n dL_law_316 1 rfl ?_
  refine hs_weak (rc' := 0 + 3 * n) (rs' := 0 + 18 * n) (by omega) (by omega) ?_
  obtain ⟨r1, h1, h⟩ := hb_bind h
  obtain ⟨h1, nf1, hb1⟩ := hb_on_at h1
  refine hs_callVi (μ' := mX8_classes) (mc := 0) (ms := 0) (rc := (3 * n)) (rs := (18 * n)) (As := []) (rest := []) (ci := 8) dL_law_317 lmL_143 okX8_classes rfl (by decide) rfl (Nat.le_of_ble_eq_true rfl) rfl hb1 (c_X8_classes h1) ?_
  refine hs_aload_n dL_law_320 2 rfl ?_
  refine hs_weak (rc' := 0 + 3 * n) (rs' := 0 + 18 * n) (by omega) (by omega) ?_
  obtain ⟨r2, h2, h⟩ := hb_bind h
  obtain ⟨h2, nf2, hb2⟩ := hb_on_at h2
  refine hs_callVi (μ' := mX9_classes) (mc := 0) (ms := 0) (rc := (3 * n)) (rs := (18 * n)) (As := []) (rest := [.int r1.1]) (ci := 9) dL_law_321 lmL_146 okX9_classes rfl (by decide) rfl (Nat.le_of_ble_eq_true rfl) rfl hb2 (c_X9_classes h2) ?_
  refine hs_icmp_eq (tgt := 2704) dL_law_324 (by decide) (fun hc3 => ?_) (fun hc3 => ?_)
  · rw [if_pos hc3] at h
    refine hs_sub (lv' := [(0, .retAddr 0), (1, .ref x1), (2, .ref x2), (3, .ref x3), (4, .int x4)]) [0, 1, 2, 3, 4] rfl ?_
    refine hs_weak (rc' := (3 * n)) (rs' := (18 * n)) (by omega) (by omega) ?_
    exact c_L_law_b2704 hl k23 hk23 h
  · rw [if_neg hc3] at h
    refine hs_iconst (v := (0 : Int32)) dL_law_327 (by decide) ?_
    obtain rfl := Option.some.inj h
    exact hs_ireturn dL_law_328 rfl (by decide) (fun h => by cases h)
set_option maxHeartbeats 4000000 in
set_option maxRecDepth 20000 in
theorem c_L_law_b313 {G : hb_G} {l : Launch} (hl : l.stackTraces = false) {n : Nat}  (k23 : Nat → Nat → Nat → Int32 → hb_M → Option (Int32 × hb_M)) (hk23 : ∀ (x1 : Nat) (x2 : Nat) (x3 : Nat) (x4 : Int32) (σ : hb_M) (r : (Int32 × hb_M)), k23 x1 x2 x3 x4 σ = some r → hb_T G l true mL_law 83 (3 * n) (18 * n) 23 [(0, .retAddr 0), (1, .ref x1), (2, .ref x2), (3, .ref x3), (4, .int x4)] [] σ (.inl (some (.int r.1)), r.2))  {x1 : Nat} {x2 : Nat} {x3 : Nat} {x4 : Int32} {σ : hb_M} {r : (Int32 × hb_M)} (h : f_L_law_b313 G.2.2.2.2.1 G.2.2.2.2.2 k23 x1 x2 x3 x4 σ = some r) : hb_T G l true mL_law 83 (3 * n) (18 * n) 313 [(0, .retAddr 0), (1, .ref x1), (2, .ref x2), (3, .ref x3), (4, .int x4)] [] σ (.inl (some (.int r.1)), r.2) := by
  unfold f_L_law_b313 at h
  refine hs_goto (tgt := 2704) dL_law_313 (by decide) ?_
  refine hs_sub (lv' := [(0, .retAddr 0), (1, .ref x1), (2, .ref x2), (3, .ref x3), (4, .int x4)]) [0, 1, 2, 3, 4] rfl ?_
  refine hs_weak (rc' := (3 * n)) (rs' := (18 * n)) (by omega) (by omega) ?_
  exact c_L_law_b2704 hl k23 hk23 h
set_option maxHeartbeats 4000000 in
set_option maxRecDepth 20000 in
theorem c_L_law_b236 {G : hb_G} {l : Launch} (hl : l.stackTraces = false) {n : Nat}  (k23 : Nat → Nat → Nat → Int32 → hb_M → Option (Int32 × hb_M)) (hk23 : ∀ (x1 : Nat) (x2 : Nat) (x3 : Nat) (x4 : Int32) (σ : hb_M) (r : (Int32 × hb_M)), k23 x1 x2 x3 x4 σ = some r → hb_T G l true mL_law 83 (3 * n) (18 * n) 23 [(0, .retAddr 0), (1, .ref x1), (2, .ref x2), (3, .ref x3), (4, .int x4)] [] σ (.inl (some (.int r.1)), r.2))  {x1 : Nat} {x2 : Nat} {x3 : Nat} {x4 : Int32} {σ : hb_M} {r : (Int32 × hb_M)} (h : f_L_law_b236 G.2.2.2.2.1 G.2.2.2.2.2 k23 x1 x2 x3 x4 σ = some r) : hb_T G l true mL_law 83 (3 * n + 3) (18 * n + 18) 236 [(0, .retAddr 0), (1, .ref x1), (2, .ref x2), (3, .ref x3), (4, .int x4)] [] σ (.inl (some (.int r.1)), r.2) := by
  unfold f_L_law_b236 at h
  refine hs_aload_n dL_law_236 1 rfl ?_
  refine hs_sload_n dL_law_237 0 rfl ?_
  refine hs_iload dL_law_238 4 rfl ?_
  refine hs_iconst (v := (1 : Int32)) dL_law_240 (by decide) ?_
  refine hs_iadd dL_law_241 ?_
  by_cases hc1 : (x4 + (1 : Int32)) < 0 ∨ G.2.2.2.2.1 ≤ (x4 + (1 : Int32)).toNatClampNeg
  · rw [if_pos hc1] at h
    cases h
  rw [if_neg hc1] at h
  refine hs_sld hc1 dL_law_242 ?_
  refine hs_sload_n dL_law_243 0 rfl ?_
  refine hs_iload dL_law_244 4 rfl ?_
  refine hs_iconst (v := (2 : Int32)) dL_law_246 (by decide) ?_
  refine hs_iadd dL_law_247 ?_
  by_cases hc2 : (x4 + (2 : Int32)) < 0 ∨ G.2.2.2.2.1 ≤ (x4 + (2 : Int32)).toNatClampNeg
  · rw [if_pos hc2] at h
    cases h
  rw [if_neg hc2] at h
  refine hs_sld hc2 dL_law_248 ?_
  refine hs_sload_n dL_law_249 0 rfl ?_
  refine hs_iload dL_law_250 4 rfl ?_
  refine hs_iconst (v := (3 : Int32)) dL_law_252 (by decide) ?_
  refine hs_iadd dL_law_253 ?_
  by_cases hc3 : (x4 + (3 : Int32)) < 0 ∨ G.2.2.2.2.1 ≤ (x4 + (3 : Int32)).toNatClampNeg
  · rw [if_pos hc3] at h
    cases h
  rw [if_neg hc3] at h
  refine hs_sld hc3 dL_law_254 ?_
  refine hs_aload_n dL_law_255 3 rfl ?_
  refine hs_weak (rc' := 1 + 3 * n) (rs' := 6 + 18 * n) (by omega) (by omega) ?_
  obtain ⟨r4, h4, h⟩ := hb_bind h
  refine hs_callSXi (μ' := mL_defineClass) (mc := 1) (ms := 6) (rc := (3 * n)) (rs := (18 * n)) (As := [.ref x1, .int (G.2.2.2.2.2 (x4 + (1 : Int32)).toNatClampNeg), .int (G.2.2.2.2.2 (x4 + (2 : Int32)).toNatClampNeg), .int (G.2.2.2.2.2 (x4 + (3 : Int32)).toNatClampNeg), .ref x3]) (rest := []) dL_law_256 lmL_134 okL_defineClass rfl (by decide) rfl (Nat.le_of_ble_eq_true rfl) (c_L_defineClass hl h4) ?_
  refine hs_istore (lv' := [(5, .int r4.1), (0, .retAddr 0), (1, .ref x1), (2, .ref x2), (3, .ref x3), (4, .int x4)]) dL_law_259 (by decide) rfl ?_
  refine hs_aload_n dL_law_261 3 rfl ?_
  refine hs_sload_n dL_law_262 1 rfl ?_
  refine hs_iload dL_law_263 5 rfl ?_
  refine hs_iconst (v := (1 : Int32)) dL_law_265 (by decide) ?_
  refine hs_iadd dL_law_266 ?_
  by_cases hc5 : (x4 + (1 : Int32)) < 0 ∨ G.2.2.2.2.1 ≤ (x4 + (1 : Int32)).toNatClampNeg
  · rw [if_pos hc5] at h
    cases h
  rw [if_neg hc5] at h
  refine hs_sld hc5 dL_law_267 ?_
  refine hs_sload_n dL_law_268 1 rfl ?_
  refine hs_iload dL_law_269 5 rfl ?_
  refine hs_iconst (v := (2 : Int32)) dL_law_271 (by decide) ?_
  refine hs_iadd dL_law_272 ?_
  by_cases hc6 : (x4 + (2 : Int32)) < 0 ∨ G.2.2.2.2.1 ≤ (x4 + (2 : Int32)).toNatClampNeg
  · rw [if_pos hc6] at h
    cases h
  rw [if_neg hc6] at h
  refine hs_sld hc6 dL_law_273 ?_
  refine hs_sload_n dL_law_274 1 rfl ?_
  refine hs_iload dL_law_275 5 rfl ?_
  refine hs_iconst (v := (3 : Int32)) dL_law_277 (by decide) ?_
  refine hs_iadd dL_law_278 ?_
  by_cases hc7 : (x4 + (3 : Int32)) < 0 ∨ G.2.2.2.2.1 ≤ (x4 + (3 : Int32)).toNatClampNeg
  · rw [if_pos hc7] at h
    cases h
  rw [if_neg hc7] at h
  refine hs_sld hc7 dL_law_279 ?_
  refine hs_weak (rc' := 0 + 3 * n) (rs' := 0 + 18 * n) (by omega) (by omega) ?_
  obtain ⟨r8, h8, h⟩ := hb_bind h
  obtain ⟨h8, nf8, hb8⟩ := hb_on_at h8
  refine hs_callVi (μ' := mX9_defineClass) (mc := 0) (ms := 0) (rc := (3 * n)) (rs := (18 * n)) (As := [.int (G.2.2.2.2.2 (x4 + (1 : Int32)).toNatClampNeg), .int (G.2.2.2.2.2 (x4 + (2 : Int32)).toNatClampNeg), .int (G.2.2.2.2.2 (x4 + (3 : Int32)).toNatClampNeg)]) (rest := []) (ci := 9) dL_law_280 lmL_139 okX9_defineClass rfl (by decide) rfl (Nat.le_of_ble_eq_true rfl) rfl hb8 (c_X9_defineClass h8) ?_
  refine hs_istore (lv' := [(6, .int r8.1), (5, .int r4.1), (0, .retAddr 0), (1, .ref x1), (2, .ref x2), (3, .ref x3), (4, .int x4)]) dL_law_283 (by decide) rfl ?_
  refine hs_aload_n dL_law_285 4 rfl ?_
  refine hs_weak (rc' := 0 + 3 * n) (rs' := 0 + 18 * n) (by omega) (by omega) ?_
  obtain ⟨r9, h9, h⟩ := hb_bind h
  obtain ⟨h9, nf9, hb9⟩ := hb_on_at h9
  refine hs_callVi (μ' := mX9_thrown) (mc := 0) (ms := 0) (rc := (3 * n)) (rs := (18 * n)) (As := []) (rest := []) (ci := 9) dL_law_286 lmL_140 okX9_thrown rfl (by decide) rfl (Nat.le_of_ble_eq_true rfl) rfl hb9 (c_X9_thrown h9) ?_
  refine hs_iload dL_law_289 1 rfl ?_
  refine hs_icmp_eq (tgt := 296) dL_law_291 (by decide) (fun hc10 => ?_) (fun hc10 => ?_)
  · rw [if_pos hc10] at h
    refine hs_iload dL_law_296 1 rfl ?_
    refine hs_if_ne (tgt := 313) dL_law_298 (by decide) (fun hc11 => ?_) (fun hc11 => ?_)
    · rw [if_neg hc11] at h
      refine hs_sub (lv' := [(0, .retAddr 0), (1, .ref x1), (2, .ref x2), (3, .ref x3), (4, .int x4)]) [2, 3, 4, 5, 6] rfl ?_
      refine hs_weak (rc' := (3 * n)) (rs' := (18 * n)) (by omega) (by omega) ?_
      exact c_L_law_b313 hl k23 hk23 h
    · rw [if_pos hc11] at h
      refine hs_aload_n dL_law_301 5 rfl ?_
      refine hs_iconst (v := (0 : Int32)) dL_law_302 (by decide) ?_
      obtain ⟨r12, h12, h⟩ := hb_bind h
      refine hs_lald dL_law_303 h12 ?_
      refine hs_iload dL_law_304 0 rfl ?_
      refine hs_i2l dL_law_306 ?_
      refine hs_lcmp dL_law_307 ?_
      refine hs_if_eq (tgt := 313) dL_law_308 (by decide) (fun hc13 => ?_) (fun hc13 => ?_)
      · rw [if_pos hc13] at h
        refine hs_sub (lv' := [(0, .retAddr 0), (1, .ref x1), (2, .ref x2), (3, .ref x3), (4, .int x4)]) [2, 3, 4, 5, 6] rfl ?_
        refine hs_weak (rc' := (3 * n)) (rs' := (18 * n)) (by omega) (by omega) ?_
        exact c_L_law_b313 hl k23 hk23 h
      · rw [if_neg hc13] at h
        refine hs_iconst (v := (0 : Int32)) dL_law_311 (by decide) ?_
        obtain rfl := Option.some.inj h
        exact hs_ireturn dL_law_312 rfl (by decide) (fun h => by cases h)
  · rw [if_neg hc10] at h
    refine hs_iconst (v := (0 : Int32)) dL_law_294 (by decide) ?_
    obtain rfl := Option.some.inj h
    exact hs_ireturn dL_law_295 rfl (by decide) (fun h => by cases h)
