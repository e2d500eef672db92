set_option maxHeartbeats 4000000 in
set_option maxRecDepth 20000 in
theorem c_L_law_b1413 {G : hb_G} {l : Launch} (hl : l.stackTraces = false) {n : Nat}  (k23 : Nat → Nat → Nat → Int32 → hb_M → Option (Int32 × hb_M)) (hk23 : ∀ (x1 : Nat) (x2 : Nat) (x3 : Nat) (x4 : Int32) (σ : hb_M) (r : (Int32 × hb_M)), k23 x1 x2 x3 x4 σ = some r → hb_T G l true mL_law 83 (3 * n) (18 * n) 23 [(0, .retAddr 0), (1, .ref x1), (2, .ref x2), (3, .ref x3), (4, .int x4)] [] σ (.inl (some (.int r.1)), r.2))  {x1 : Nat} {x2 : Nat} {x3 : Nat} {x4 : Int32} {s0 : Int64} {s1 : Int64} {σ : hb_M} {r : (Int32 × hb_M)} (h : f_L_law_b1413 G.2.2.2.2.1 G.2.2.2.2.2 k23 x1 x2 x3 x4 s0 s1 σ = some r) : hb_T G l true mL_law 83 (3 * n) (18 * n) 1413 [(0, .retAddr 0), (1, .ref x1), (2, .ref x2), (3, .ref x3), (4, .int x4)] [.long s1, .long s0] σ (.inl (some (.int r.1)), r.2) := by
  unfold f_L_law_b1413 at h
  refine hs_lcmp dL_law_1413 ?_
  refine hs_if_eq (tgt := 1419) dL_law_1414 (by decide) (fun hc1 => ?_) (fun hc1 => ?_)
  · rw [if_pos hc1] at h
    refine hs_sub (lv' := [(0, .retAddr 0), (1, .ref x1), (2, .ref x2), (3, .ref x3), (4, .int x4)]) [0, 1, 2, 3, 4] rfl ?_
    refine hs_weak (rc' := (3 * n)) (rs' := (18 * n)) (by omega) (by omega) ?_
    exact c_L_law_b1419 hl k23 hk23 h
  · rw [if_neg hc1] at h
    refine hs_iconst (v := (0 : Int32)) dL_law_1417 (by decide) ?_
    obtain rfl := Option.some.inj h
    exact hs_ireturn dL_law_1418 rfl (by decide) (fun h => by cases h)
set_option maxHeartbeats 4000000 in
set_option maxRecDepth 20000 in
theorem c_L_law_b1347 {G : hb_G} {l : Launch} (hl : l.stackTraces = false) {n : Nat}  (k23 : Nat → Nat → Nat → Int32 → hb_M → Option (Int32 × hb_M)) (hk23 : ∀ (x1 : Nat) (x2 : Nat) (x3 : Nat) (x4 : Int32) (σ : hb_M) (r : (Int32 × hb_M)), k23 x1 x2 x3 x4 σ = some r → hb_T G l true mL_law 83 (3 * n) (18 * n) 23 [(0, .retAddr 0), (1, .ref x1), (2, .ref x2), (3, .ref x3), (4, .int x4)] [] σ (.inl (some (.int r.1)), r.2))  {x1 : Nat} {x2 : Nat} {x3 : Nat} {x4 : Int32} {σ : hb_M} {r : (Int32 × hb_M)} (h : f_L_law_b1347 G.2.2.2.2.1 G.2.2.2.2.2 k23 x1 x2 x3 x4 σ = some r) : hb_T G l true mL_law 83 (3 * n + 3) (18 * n + 18) 1347 [(0, .retAddr 0), (1, .ref x1), (2, .ref x2), (3, .ref x3), (4, .int x4)] [] σ (.inl (some (.int r.1)), r.2) := by
  unfold f_L_law_b1347 at h
  refine hs_aload_n dL_law_1347 1 rfl ?_
  refine hs_sload_n dL_law_1348 0 rfl ?_
  refine hs_iload dL_law_1349 4 rfl ?_
  refine hs_iconst (v := (1 : Int32)) dL_law_1351 (by decide) ?_
  refine hs_iadd dL_law_1352 ?_
  by_cases hc1 : (x4 + (1 : Int32)) < 0 ∨ G.2.2.2.2.1 ≤ (x4 + (1 : Int32)).toNatClampNeg
  · rw [if_pos hc1] at h
    cases h
  rw [if_neg hc1] at h
  refine hs_sld hc1 dL_law_1353 ?_
  refine hs_sload_n dL_law_1354 0 rfl ?_
  refine hs_iload dL_law_1355 4 rfl ?_
  refine hs_iconst (v := (2 : Int32)) dL_law_1357 (by decide) ?_
  refine hs_iadd dL_law_1358 ?_
  by_cases hc2 : (x4 + (2 : Int32)) < 0 ∨ G.2.2.2.2.1 ≤ (x4 + (2 : Int32)).toNatClampNeg
  · rw [if_pos hc2] at h
    cases h
  rw [if_neg hc2] at h
  refine hs_sld hc2 dL_law_1359 ?_
  refine hs_aload_n dL_law_1360 3 rfl ?_
  refine hs_weak (rc' := 1 + 3 * n) (rs' := 6 + 18 * n) (by omega) (by omega) ?_
  obtain ⟨r3, h3, h⟩ := hb_bind h
  refine hs_callSXi (μ' := mL_dominates) (mc := 1) (ms := 6) (rc := (3 * n)) (rs := (18 * n)) (As := [.ref x1, .int (G.2.2.2.2.2 (x4 + (1 : Int32)).toNatClampNeg), .int (G.2.2.2.2.2 (x4 + (2 : Int32)).toNatClampNeg), .ref x3]) (rest := []) dL_law_1361 lmL_208 okL_dominates rfl (by decide) rfl (Nat.le_of_ble_eq_true rfl) (c_L_dominates hl h3) ?_
  refine hs_istore (lv' := [(5, .int r3.1), (0, .retAddr 0), (1, .ref x1), (2, .ref x2), (3, .ref x3), (4, .int x4)]) dL_law_1364 (by decide) rfl ?_
  refine hs_aload_n dL_law_1366 3 rfl ?_
  refine hs_sload_n dL_law_1367 1 rfl ?_
  refine hs_iload dL_law_1368 5 rfl ?_
  refine hs_iconst (v := (1 : Int32)) dL_law_1370 (by decide) ?_
  refine hs_iadd dL_law_1371 ?_
  by_cases hc4 : (x4 + (1 : Int32)) < 0 ∨ G.2.2.2.2.1 ≤ (x4 + (1 : Int32)).toNatClampNeg
  · rw [if_pos hc4] at h
    cases h
  rw [if_neg hc4] at h
  refine hs_sld hc4 dL_law_1372 ?_
  refine hs_sload_n dL_law_1373 1 rfl ?_
  refine hs_iload dL_law_1374 5 rfl ?_
  refine hs_iconst (v := (2 : Int32)) dL_law_1376 (by decide) ?_
  refine hs_iadd dL_law_1377 ?_
  by_cases hc5 : (x4 + (2 : Int32)) < 0 ∨ G.2.2.2.2.1 ≤ (x4 + (2 : Int32)).toNatClampNeg
  · rw [if_pos hc5] at h
    cases h
  rw [if_neg hc5] at h
  refine hs_sld hc5 dL_law_1378 ?_
  refine hs_weak (rc' := 0 + 3 * n) (rs' := 0 + 18 * n) (by omega) (by omega) ?_
  obtain ⟨r6, h6, h⟩ := hb_bind h
  obtain ⟨h6, nf6, hb6⟩ := hb_on_at h6
  refine hs_callVi (μ' := mX9_dominates) (mc := 0) (ms := 0) (rc := (3 * n)) (rs := (18 * n)) (As := [.int (G.2.2.2.2.2 (x4 + (1 : Int32)).toNatClampNeg), .int (G.2.2.2.2.2 (x4 + (2 : Int32)).toNatClampNeg)]) (rest := []) (ci := 9) dL_law_1379 lmL_210 okX9_dominates rfl (by decide) rfl (Nat.le_of_ble_eq_true rfl) rfl hb6 (c_X9_dominates h6) ?_
  refine hs_istore (lv' := [(6, .int r6.1), (5, .int r3.1), (0, .retAddr 0), (1, .ref x1), (2, .ref x2), (3, .ref x3), (4, .int x4)]) dL_law_1382 (by decide) rfl ?_
  refine hs_aload_n dL_law_1384 4 rfl ?_
  refine hs_weak (rc' := 0 + 3 * n) (rs' := 0 + 18 * n) (by omega) (by omega) ?_
  obtain ⟨r7, h7, h⟩ := hb_bind h
  obtain ⟨h7, nf7, hb7⟩ := hb_on_at h7
  refine hs_callVi (μ' := mX9_thrown) (mc := 0) (ms := 0) (rc := (3 * n)) (rs := (18 * n)) (As := []) (rest := []) (ci := 9) dL_law_1385 lmL_140 okX9_thrown rfl (by decide) rfl (Nat.le_of_ble_eq_true rfl) rfl hb7 (c_X9_thrown h7) ?_
  refine hs_iload dL_law_1388 1 rfl ?_
  refine hs_icmp_eq (tgt := 1395) dL_law_1390 (by decide) (fun hc8 => ?_) (fun hc8 => ?_)
  · rw [if_pos hc8] at h
    refine hs_iload dL_law_1395 1 rfl ?_
    refine hs_if_ne (tgt := 1419) dL_law_1397 (by decide) (fun hc9 => ?_) (fun hc9 => ?_)
    · rw [if_neg hc9] at h
      refine hs_sub (lv' := [(0, .retAddr 0), (1, .ref x1), (2, .ref x2), (3, .ref x3), (4, .int x4)]) [2, 3, 4, 5, 6] rfl ?_
      refine hs_weak (rc' := (3 * n)) (rs' := (18 * n)) (by omega) (by omega) ?_
      exact c_L_law_b1419 hl k23 hk23 h
    · rw [if_pos hc9] at h
      refine hs_aload_n dL_law_1400 5 rfl ?_
      refine hs_iconst (v := (0 : Int32)) dL_law_1401 (by decide) ?_
      obtain ⟨r10, h10, h⟩ := hb_bind h
      refine hs_lald dL_law_1402 h10 ?_
      refine hs_iload dL_law_1403 0 rfl ?_
      refine hs_if_eq (tgt := 1412) dL_law_1405 (by decide) (fun hc11 => ?_) (fun hc11 => ?_)
      · rw [if_pos hc11] at h
        refine hs_lconst (v := (0 : Int64)) dL_law_1412 (by decide) ?_
        refine hs_sub (lv' := [(0, .retAddr 0), (1, .ref x1), (2, .ref x2), (3, .ref x3), (4, .int x4)]) [2, 3, 4, 5, 6] rfl ?_
        refine hs_weak (rc' := (3 * n)) (rs' := (18 * n)) (by omega) (by omega) ?_
        exact c_L_law_b1413 hl k23 hk23 h
      · rw [if_neg hc11] at h
        refine hs_lconst (v := (1 : Int64)) dL_law_1408 (by decide) ?_
        refine hs_goto (tgt := 1413) dL_law_1409 (by decide) ?_
        refine hs_sub (lv' := [(0, .retAddr 0), (1, .ref x1), (2, .ref x2), (3, .ref x3), (4, .int x4)]) [2, 3, 4, 5, 6] rfl ?_
        refine hs_weak (rc' := (3 * n)) (rs' := (18 * n)) (by omega) (by omega) ?_
        exact c_L_law_b1413 hl k23 hk23 h
  · rw [if_neg hc8] at h
    refine hs_iconst (v := (0 : Int32)) dL_law_1393 (by decide) ?_
    obtain rfl := Option.some.inj h
    exact hs_ireturn dL_law_1394 rfl (by decide) (fun h => by cases h)
set_option maxHeartbeats 4000000 in
set_option maxRecDepth 20000 in
theorem c_L_law_b1344 {G : hb_G} {l : Launch} (hl : l.stackTraces = false) {n : Nat}  (k23 : Nat → Nat → Nat → Int32 → hb_M → Option (Int32 × hb_M)) (hk23 : ∀ (x1 : Nat) (x2 : Nat) (x3 : Nat) (x4 : Int32) (σ : hb_M) (r : (Int32 × hb_M)), k23 x1 x2 x3 x4 σ = some r → hb_T G l true mL_law 83 (3 * n) (18 * n) 23 [(0, .retAddr 0), (1, .ref x1), (2, .ref x2), (3, .ref x3), (4, .int x4)] [] σ (.inl (some (.int r.1)), r.2))  {x1 : Nat} {x2 : Nat} {x3 : Nat} {x4 : Int32} {σ : hb_M} {r : (Int32 × hb_M)} (h : f_L_law_b1344 G.2.2.2.2.1 G.2.2.2.2.2 k23 x1 x2 x3 x4 σ = some r) : hb_T G l true mL_law 83 (3 * n) (18 * n) 1344 [(0, .retAddr 0), (1, .ref x1), (2, .ref x2), (3, .ref x3), (4, .int x4)] [] σ (.inl (some (.int r.1)), r.2) := by
  unfold f_L_law_b1344 at h
  refine hs_goto (tgt := 2704) dL_law_1344 (by decide) ?_
  refine hs_sub (lv' := [(0, .retAddr 0), (1, .ref x1), (2, .ref x2), (3, .ref x3), (4, .int x4)]) [0, 1, 2, 3, 4] rfl ?_
  refine hs_weak (rc' := (3 * n)) (rs' := (18 * n)) (by omega) (by omega) ?_
  exact c_L_law_b2704 hl k23 hk23 h
set_option maxHeartbeats 4000000 in
set_option maxRecDepth 20000 in
theorem c_L_law_b1279 {G : hb_G} {l : Launch} (hl : l.stackTraces = false) {n : Nat}  (k23 : Nat → Nat → Nat → Int32 → hb_M → Option (Int32 × hb_M)) (hk23 : ∀ (x1 : Nat) (x2 : Nat) (x3 : Nat) (x4 : Int32) (σ : hb_M) (r : (Int32 × hb_M)), k23 x1 x2 x3 x4 σ = some r → hb_T G l true mL_law 83 (3 * n) (18 * n) 23 [(0, .retAddr 0), (1, .ref x1), (2, .ref x2), (3, .ref x3), (4, .int x4)] [] σ (.inl (some (.int r.1)), r.2))  {x1 : Nat} {x2 : Nat} {x3 : Nat} {x4 : Int32} {σ : hb_M} {r : (Int32 × hb_M)} (h : f_L_law_b1279 G.2.2.2.2.1 G.2.2.2.2.2 k23 x1 x2 x3 x4 σ = some r) : hb_T G l true mL_law 83 (3 * n + 3) (18 * n + 18) 1279 [(0, .retAddr 0), (1, .ref x1), (2, .ref x2), (3, .ref x3), (4, .int x4)] [] σ (.inl (some (.int r.1)), r.2) := by
  unfold f_L_law_b1279 at h
  refine hs_aload_n dL_law_1279 1 rfl ?_
  refine hs_sload_n dL_law_1280 0 rfl ?_
  refine hs_iload dL_law_1281 4 rfl ?_
  refine hs_iconst (v := (1 : Int32)) dL_law_1283 (by decide) ?_
  refine hs_iadd dL_law_1284 ?_
  by_cases hc1 : (x4 + (1 : Int32)) < 0 ∨ G.2.2.2.2.1 ≤ (x4 + (1 : Int32)).toNatClampNeg
  · rw [if_pos hc1] at h
    cases h
  rw [if_neg hc1] at h
  refine hs_sld hc1 dL_law_1285 ?_
  refine hs_sload_n dL_law_1286 0 rfl ?_
  refine hs_iload dL_law_1287 4 rfl ?_
  refine hs_iconst (v := (2 : Int32)) dL_law_1289 (by decide) ?_
  refine hs_iadd dL_law_1290 ?_
  by_cases hc2 : (x4 + (2 : Int32)) < 0 ∨ G.2.2.2.2.1 ≤ (x4 + (2 : Int32)).toNatClampNeg
  · rw [if_pos hc2] at h
    cases h
  rw [if_neg hc2] at h
  refine hs_sld hc2 dL_law_1291 ?_
  refine hs_aload_n dL_law_1292 3 rfl ?_
  refine hs_weak (rc' := 1 + 3 * n) (rs' := 6 + 18 * n) (by omega) (by omega) ?_
  obtain ⟨r3, h3, h⟩ := hb_bind h
  refine hs_callSXi (μ' := mL_pathAt) (mc := 1) (ms := 6) (rc := (3 * n)) (rs := (18 * n)) (As := [.ref x1, .int (G.2.2.2.2.2 (x4 + (1 : Int32)).toNatClampNeg), .int (G.2.2.2.2.2 (x4 + (2 : Int32)).toNatClampNeg), .ref x3]) (rest := []) dL_law_1293 lmL_205 okL_pathAt rfl (by decide) rfl (Nat.le_of_ble_eq_true rfl) (c_L_pathAt hl h3) ?_
  refine hs_istore (lv' := [(5, .int r3.1), (0, .retAddr 0), (1, .ref x1), (2, .ref x2), (3, .ref x3), (4, .int x4)]) dL_law_1296 (by decide) rfl ?_
  refine hs_aload_n dL_law_1298 3 rfl ?_
  refine hs_sload_n dL_law_1299 1 rfl ?_
  refine hs_iload dL_law_1300 5 rfl ?_
  refine hs_iconst (v := (1 : Int32)) dL_law_1302 (by decide) ?_
  refine hs_iadd dL_law_1303 ?_
  by_cases hc4 : (x4 + (1 : Int32)) < 0 ∨ G.2.2.2.2.1 ≤ (x4 + (1 : Int32)).toNatClampNeg
  · rw [if_pos hc4] at h
    cases h
  rw [if_neg hc4] at h
  refine hs_sld hc4 dL_law_1304 ?_
  refine hs_sload_n dL_law_1305 1 rfl ?_
  refine hs_iload dL_law_1306 5 rfl ?_
  refine hs_iconst (v := (2 : Int32)) dL_law_1308 (by decide) ?_
  refine hs_iadd dL_law_1309 ?_
  by_cases hc5 : (x4 + (2 : Int32)) < 0 ∨ G.2.2.2.2.1 ≤ (x4 + (2 : Int32)).toNatClampNeg
  · rw [if_pos hc5] at h
    cases h
  rw [if_neg hc5] at h
  refine hs_sld hc5 dL_law_1310 ?_
  refine hs_weak (rc' := 0 + 3 * n) (rs' := 0 + 18 * n) (by omega) (by omega) ?_
  obtain ⟨r6, h6, h⟩ := hb_bind h
  obtain ⟨h6, nf6, hb6⟩ := hb_on_at h6
  refine hs_callVi (μ' := mX9_pathAt) (mc := 0) (ms := 0) (rc := (3 * n)) (rs := (18 * n)) (As := [.int (G.2.2.2.2.2 (x4 + (1 : Int32)).toNatClampNeg), .int (G.2.2.2.2.2 (x4 + (2 : Int32)).toNatClampNeg)]) (rest := []) (ci := 9) dL_law_1311 lmL_207 okX9_pathAt rfl (by decide) rfl (Nat.le_of_ble_eq_true rfl) rfl hb6 (c_X9_pathAt h6) ?_
  refine hs_istore (lv' := [(6, .int r6.1), (5, .int r3.1), (0, .retAddr 0), (1, .ref x1), (2, .ref x2), (3, .ref x3), (4, .int x4)]) dL_law_1314 (by decide) rfl ?_
  refine hs_aload_n dL_law_1316 4 rfl ?_
  refine hs_weak (rc' := 0 + 3 * n) (rs' := 0 + 18 * n) (by omega) (by omega) ?_
  obtain ⟨r7, h7, h⟩ := hb_bind h
  obtain ⟨h7, nf7, hb7⟩ := hb_on_at h7
  refine hs_callVi (μ' := mX9_thrown) (mc := 0) (ms := 0) (rc := (3 * n)) (rs := (18 * n)) (As := []) (rest := []) (ci := 9) dL_law_1317 lmL_140 okX9_thrown rfl (by decide) rfl (Nat.le_of_ble_eq_true rfl) rfl hb7 (c_X9_thrown h7) ?_
  refine hs_iload dL_law_1320 1 rfl ?_
  refine hs_icmp_eq (tgt := 1327) dL_law_1322 (by decide) (fun hc8 => ?_) (fun hc8 => ?_)
  · rw [if_pos hc8] at h
    refine hs_iload dL_law_1327 1 rfl ?_
    refine hs_if_ne (tgt := 1344) dL_law_1329 (by decide) (fun hc9 => ?_) (fun hc9 => ?_)
    · rw [if_neg hc9] at h
      refine hs_sub (lv' := [(0, .retAddr 0), (1, .ref x1), (2, .ref x2), (3, .ref x3), (4, .int x4)]) [2, 3, 4, 5, 6] rfl ?_
      refine hs_weak (rc' := (3 * n)) (rs' := (18 * n)) (by omega) (by omega) ?_
      exact c_L_law_b1344 hl k23 hk23 h
    · rw [if_pos hc9] at h
      refine hs_aload_n dL_law_1332 5 rfl ?_
      refine hs_iconst (v := (0 : Int32)) dL_law_1333 (by decide) ?_
      obtain ⟨r10, h10, h⟩ := hb_bind h
      refine hs_lald dL_law_1334 h10 ?_
      refine hs_iload dL_law_1335 0 rfl ?_
      refine hs_i2l dL_law_1337 ?_
      refine hs_lcmp dL_law_1338 ?_
      refine hs_if_eq (tgt := 1344) dL_law_1339 (by decide) (fun hc11 => ?_) (fun hc11 => ?_)
      · rw [if_pos hc11] at h
        refine hs_sub (lv' := [(0, .retAddr 0), (1, .ref x1), (2, .ref x2), (3, .ref x3), (4, .int x4)]) [2, 3, 4, 5, 6] rfl ?_
        refine hs_weak (rc' := (3 * n)) (rs' := (18 * n)) (by omega) (by omega) ?_
        exact c_L_law_b1344 hl k23 hk23 h
      · rw [if_neg hc11] at h
        refine hs_iconst (v := (0 : Int32)) dL_law_1342 (by decide) ?_
        obtain rfl := Option.some.inj h
        exact hs_ireturn dL_law_1343 rfl (by decide) (fun h => by cases h)
  · rw [if_neg hc8] at h
    refine hs_iconst (v := (0 : Int32)) dL_law_1325 (by decide) ?_
    obtain rfl := Option.some.inj h
    exact hs_ireturn dL_law_1326 rfl (by decide) (fun h => by cases h)
set_option maxHeartbeats 4000000 in
set_option maxRecDepth 20000 in
theorem c_L_law_b1276 {G : hb_G} {l : Launch} (hl : l.stackTraces = false) {n : Nat}  (k23 : Nat → Nat → Nat → Int32 → hb_M → Option (Int32 × hb_M)) (hk23 : ∀ (x1 : Nat) (x2 : Nat) (x3 : Nat) (x4 : Int32) (σ : hb_M) (r : (Int32 × hb_M)), k23 x1 x2 x3 x4 σ = some r → hb_T G l true mL_law 83 (3 * n) (18 * n) 23 [(0, .retAddr 0), (1, .ref x1), (2, .ref x2), (3, .ref x3), (4, .int x4)] [] σ (.inl (some (.int r.1)), r.2))  {x1 : Nat} {x2 : Nat} {x3 : Nat} {x4 : Int32} {σ : hb_M} {r : (Int32 × hb_M)} (h : f_L_law_b1276 G.2.2.2.2.1 G.2.2.2.2.2 k23 x1 x2 x3 x4 σ = some r) : hb_T G l true mL_law 83 (3 * n) (18 * n) 1276 [(0, .retAddr 0), (1, .ref x1), (2, .ref x2), (3, .ref x3), (4, .int x4)] [] σ (.inl (some (.int r.1)), r.2) := by
  unfold f_L_law_b1276 at h
  refine hs_goto (tgt := 2704) dL_law_1276 (by decide) ?_
  refine hs_sub (lv' := [(0, .retAddr 0), (1, .ref x1), (2, .ref x2), (3, .ref x3), (4, .int x4)]) [0, 1, 2, 3, 4] rfl ?_
  refine hs_weak (rc' := (3 * n)) (rs' := (18 * n)) (by omega) (by omega) ?_
  exact c_L_law_b2704 hl k23 hk23 h
set_option maxHeartbeats 4000000 in
set_option maxRecDepth 20000 in
theorem c_L_law_b1223 {G : hb_G} {l : Launch} (hl : l.stackTraces = false) {n : Nat}  (k23 : Nat → Nat → Nat → Int32 → hb_M → Option (Int32 × hb_M)) (hk23 : ∀ (x1 : Nat) (x2 : Nat) (x3 : Nat) (x4 : Int32) (σ : hb_M) (r : (Int32 × hb_M)), k23 x1 x2 x3 x4 σ = some r → hb_T G l true mL_law 83 (3 * n) (18 * n) 23 [(0, .retAddr 0), (1, .ref x1), (2, .ref x2), (3, .ref x3), (4, .int x4)] [] σ (.inl (some (.int r.1)), r.2))  {x1 : Nat} {x2 : Nat} {x3 : Nat} {x4 : Int32} {σ : hb_M} {r : (Int32 × hb_M)} (h : f_L_law_b1223 G.2.2.2.2.1 G.2.2.2.2.2 k23 x1 x2 x3 x4 σ = some r) : hb_T G l true mL_law 83 (3 * n + 3) (18 * n + 18) 1223 [(0, .retAddr 0), (1, .ref x1), (2, .ref x2), (3, .ref x3), (4, .int x4)] [] σ (.inl (some (.int r.1)), r.2) := by
  unfold f_L_law_b1223 at h
  refine hs_aload_n dL_law_1223 1 rfl ?_
  refine hs_sload_n dL_law_1224 0 rfl ?_
  refine hs_iload dL_law_1225 4 rfl ?_
  refine hs_iconst (v := (1 : Int32)) dL_law_1227 (by decide) ?_
  refine hs_iadd dL_law_1228 ?_
  by_cases hc1 : (x4 + (1 : Int32)) < 0 ∨ G.2.2.2.2.1 ≤ (x4 + (1 : Int32)).toNatClampNeg
  · rw [if_pos hc1] at h
    cases h
  rw [if_neg hc1] at h
  refine hs_sld hc1 dL_law_1229 ?_
  refine hs_aload_n dL_law_1230 3 rfl ?_
  refine hs_weak (rc' := 1 + 3 * n) (rs' := 6 + 18 * n) (by omega) (by omega) ?_
  obtain ⟨r2, h2, h⟩ := hb_bind h
  refine hs_callSXi (μ' := mL_distance) (mc := 1) (ms := 6) (rc := (3 * n)) (rs := (18 * n)) (As := [.ref x1, .int (G.2.2.2.2.2 (x4 + (1 : Int32)).toNatClampNeg), .ref x3]) (rest := []) dL_law_1231 lmL_202 okL_distance rfl (by decide) rfl (Nat.le_of_ble_eq_true rfl) (c_L_distance hl h2) ?_
  refine hs_istore (lv' := [(5, .int r2.1), (0, .retAddr 0), (1, .ref x1), (2, .ref x2), (3, .ref x3), (4, .int x4)]) dL_law_1234 (by decide) rfl ?_
  refine hs_aload_n dL_law_1236 3 rfl ?_
  refine hs_sload_n dL_law_1237 1 rfl ?_
  refine hs_iload dL_law_1238 5 rfl ?_
  refine hs_iconst (v := (1 : Int32)) dL_law_1240 (by decide) ?_
  refine hs_iadd dL_law_1241 ?_
  by_cases hc3 : (x4 + (1 : Int32)) < 0 ∨ G.2.2.2.2.1 ≤ (x4 + (1 : Int32)).toNatClampNeg
  · rw [if_pos hc3] at h
    cases h
  rw [if_neg hc3] at h
  refine hs_sld hc3 dL_law_1242 ?_
  refine hs_weak (rc' := 0 + 3 * n) (rs' := 0 + 18 * n) (by omega) (by omega) ?_
  obtain ⟨r4, h4, h⟩ := hb_bind h
  obtain ⟨h4, nf4, hb4⟩ := hb_on_at h4
  refine hs_callVi (μ' := mX9_distance) (mc := 0) (ms := 0) (rc := (3 * n)) (rs := (18 * n)) (As := [.int (G.2.2.2.2.2 (x4 + (1 : Int32)).toNatClampNeg)]) (rest := []) (ci := 9) dL_law_1243 lmL_204 okX9_distance rfl (by decide) rfl (Nat.le_of_ble_eq_true rfl) rfl hb4 (c_X9_distance h4) ?_
  refine hs_istore (lv' := [(6, .int r4.1), (5, .int r2.1), (0, .retAddr 0), (1, .ref x1), (2, .ref x2), (3, .ref x3), (4, .int x4)]) dL_law_1246 (by decide) rfl ?_
  refine hs_aload_n dL_law_1248 4 rfl ?_
  refine hs_weak (rc' := 0 + 3 * n) (rs' := 0 + 18 * n) (by omega) (by omega) ?_
  obtain ⟨r5, h5, h⟩ := hb_bind h
  obtain ⟨h5, nf5, hb5⟩ := hb_on_at h5
  refine hs_callVi (μ' := mX9_thrown) (mc := 0) (ms := 0) (rc := (3 * n)) (rs := (18 * n)) (As := []) (rest := []) (ci := 9) dL_law_1249 lmL_140 okX9_thrown rfl (by decide) rfl (Nat.le_of_ble_eq_true rfl) rfl hb5 (c_X9_thrown h5) ?_
  refine hs_iload dL_law_1252 1 rfl ?_
  refine hs_icmp_eq (tgt := 1259) dL_law_1254 (by decide) (fun hc6 => ?_) (fun hc6 => ?_)
  · rw [if_pos hc6] at h
    refine hs_iload dL_law_1259 1 rfl ?_
    refine hs_if_ne (tgt := 1276) dL_law_1261 (by decide) (fun hc7 => ?_) (fun hc7 => ?_)
    · rw [if_neg hc7] at h
      refine hs_sub (lv' := [(0, .retAddr 0), (1, .ref x1), (2, .ref x2), (3, .ref x3), (4, .int x4)]) [2, 3, 4, 5, 6] rfl ?_
      refine hs_weak (rc' := (3 * n)) (rs' := (18 * n)) (by omega) (by omega) ?_
      exact c_L_law_b1276 hl k23 hk23 h
    · rw [if_pos hc7] at h
      refine hs_aload_n dL_law_1264 5 rfl ?_
      refine hs_iconst (v := (0 : Int32)) dL_law_1265 (by decide) ?_
      obtain ⟨r8, h8, h⟩ := hb_bind h
      refine hs_lald dL_law_1266 h8 ?_
      refine hs_iload dL_law_1267 0 rfl ?_
      refine hs_i2l dL_law_1269 ?_
      refine hs_lcmp dL_law_1270 ?_
      refine hs_if_eq (tgt := 1276) dL_law_1271 (by decide) (fun hc9 => ?_) (fun hc9 => ?_)
      · rw [if_pos hc9] at h
        refine hs_sub (lv' := [(0, .retAddr 0), (1, .ref x1), (2, .ref x2), (3, .ref x3), (4, .int x4)]) [2, 3, 4, 5, 6] rfl ?_
        refine hs_weak (rc' := (3 * n)) (rs' := (18 * n)) (by omega) (by omega) ?_
        exact c_L_law_b1276 hl k23 hk23 h
      · rw [if_neg hc9] at h
        refine hs_iconst (v := (0 : Int32)) dL_law_1274 (by decide) ?_
        obtain rfl := Option.some.inj h
        exact hs_ireturn dL_law_1275 rfl (by decide) (fun h => by cases h)
  · rw [if_neg hc6] at h
    refine hs_iconst (v := (0 : Int32)) dL_law_1257 (by decide) ?_
    obtain rfl := Option.some.inj h
    exact hs_ireturn dL_law_1258 rfl (by decide) (fun h => by cases h)
set_option maxHeartbeats 4000000 in
set_option maxRecDepth 20000 in
theorem c_L_law_b1220 {G : hb_G} {l : Launch} (hl : l.stackTraces = false) {n : Nat}  (k23 : Nat → Nat → Nat → Int32 → hb_M → Option (Int32 × hb_M)) (hk23 : ∀ (x1 : Nat) (x2 : Nat) (x3 : Nat) (x4 : Int32) (σ : hb_M) (r : (Int32 × hb_M)), k23 x1 x2 x3 x4 σ = some r → hb_T G l true mL_law 83 (3 * n) (18 * n) 23 [(0, .retAddr 0), (1, .ref x1), (2, .ref x2), (3, .ref x3), (4, .int x4)] [] σ (.inl (some (.int r.1)), r.2))  {x1 : Nat} {x2 : Nat} {x3 : Nat} {x4 : Int32} {σ : hb_M} {r : (Int32 × hb_M)} (h : f_L_law_b1220 G.2.2.2.2.1 G.2.2.2.2.2 k23 x1 x2 x3 x4 σ = some r) : hb_T G l true mL_law 83 (3 * n) (18 * n) 1220 [(0, .retAddr 0), (1, .ref x1), (2, .ref x2), (3, .ref x3), (4, .int x4)] [] σ (.inl (some (.int r.1)), r.2) := by
  unfold f_L_law_b1220 at h
  refine hs_goto (tgt := 2704) dL_law_1220 (by decide) ?_
  refine hs_sub (lv' := [(0, .retAddr 0), (1, .ref x1), (2, .ref x2), (3, .ref x3), (4, .int x4)]) [0, 1, 2, 3, 4] rfl ?_
  refine hs_weak (rc' := (3 * n)) (rs' := (18 * n)) (by omega) (by omega) ?_
  exact c_L_law_b2704 hl k23 hk23 h
set_option maxHeartbeats 4000000 in
set_option maxRecDepth 20000 in
theorem c_L_law_b1155 {G : hb_G} {l : Launch} (hl : l.stackTraces = false) {n : Nat}  (k23 : Nat → Nat → Nat → Int32 → hb_M → Option (Int32 × hb_M)) (hk23 : ∀ (x1 : Nat) (x2 : Nat) (x3 : Nat) (x4 : Int32) (σ : hb_M) (r : (Int32 × hb_M)), k23 x1 x2 x3 x4 σ = some r → hb_T G l true mL_law 83 (3 * n) (18 * n) 23 [(0, .retAddr 0), (1, .ref x1), (2, .ref x2), (3, .ref x3), (4, .int x4)] [] σ (.inl (some (.int r.1)), r.2))  {x1 : Nat} {x2 : Nat} {x3 : Nat} {x4 : Int32} {σ : hb_M} {r : (Int32 × hb_M)} (h : f_L_law_b1155 G.2.2.2.2.1 G.2.2.2.2.2 k23 x1 x2 x3 x4 σ = some r) : hb_T G l true mL_law 83 (3 * n + 3) (18 * n + 18) 1155 [(0, .retAddr 0), (1, .ref x1), (2, .ref x2), (3, .ref x3), (4, .int x4)] [] σ (.inl (some (.int r.1)), r.2) := by
  unfold f_L_law_b1155 at h
  refine hs_aload_n dL_law_1155 1 rfl ?_
  refine hs_sload_n dL_law_1156 0 rfl ?_
  refine hs_iload dL_law_1157 4 rfl ?_
  refine hs_iconst (v := (1 : Int32)) dL_law_1159 (by decide) ?_
  refine hs_iadd dL_law_1160 ?_
  by_cases hc1 : (x4 + (1 : Int32)) < 0 ∨ G.2.2.2.2.1 ≤ (x4 + (1 : Int32)).toNatClampNeg
  · rw [if_pos hc1] at h
    cases h
  rw [if_neg hc1] at h
  refine hs_sld hc1 dL_law_1161 ?_
  refine hs_sload_n dL_law_1162 0 rfl ?_
  refine hs_iload dL_law_1163 4 rfl ?_
  refine hs_iconst (v := (2 : Int32)) dL_law_1165 (by decide) ?_
  refine hs_iadd dL_law_1166 ?_
  by_cases hc2 : (x4 + (2 : Int32)) < 0 ∨ G.2.2.2.2.1 ≤ (x4 + (2 : Int32)).toNatClampNeg
  · rw [if_pos hc2] at h
    cases h
  rw [if_neg hc2] at h
  refine hs_sld hc2 dL_law_1167 ?_
  refine hs_aload_n dL_law_1168 3 rfl ?_
  refine hs_weak (rc' := 2 + 3 * n) (rs' := 12 + 18 * n) (by omega) (by omega) ?_
  obtain ⟨r3, h3, h⟩ := hb_bind h
  refine hs_callSXi (μ' := mL_populate) (mc := 2) (ms := 12) (rc := (3 * n)) (rs := (18 * n)) (As := [.ref x1, .int (G.2.2.2.2.2 (x4 + (1 : Int32)).toNatClampNeg), .int (G.2.2.2.2.2 (x4 + (2 : Int32)).toNatClampNeg), .ref x3]) (rest := []) dL_law_1169 lmL_199 okL_populate rfl (by decide) rfl (Nat.le_of_ble_eq_true rfl) (c_L_populate hl h3) ?_
  refine hs_istore (lv' := [(5, .int r3.1), (0, .retAddr 0), (1, .ref x1), (2, .ref x2), (3, .ref x3), (4, .int x4)]) dL_law_1172 (by decide) rfl ?_
  refine hs_aload_n dL_law_1174 3 rfl ?_
  refine hs_sload_n dL_law_1175 1 rfl ?_
  refine hs_iload dL_law_1176 5 rfl ?_
  refine hs_iconst (v := (1 : Int32)) dL_law_1178 (by decide) ?_
  refine hs_iadd dL_law_1179 ?_
  by_cases hc4 : (x4 + (1 : Int32)) < 0 ∨ G.2.2.2.2.1 ≤ (x4 + (1 : Int32)).toNatClampNeg
  · rw [if_pos hc4] at h
    cases h
  rw [if_neg hc4] at h
  refine hs_sld hc4 dL_law_1180 ?_
  refine hs_sload_n dL_law_1181 1 rfl ?_
  refine hs_iload dL_law_1182 5 rfl ?_
  refine hs_iconst (v := (2 : Int32)) dL_law_1184 (by decide) ?_
  refine hs_iadd dL_law_1185 ?_
  by_cases hc5 : (x4 + (2 : Int32)) < 0 ∨ G.2.2.2.2.1 ≤ (x4 + (2 : Int32)).toNatClampNeg
  · rw [if_pos hc5] at h
    cases h
  rw [if_neg hc5] at h
  refine hs_sld hc5 dL_law_1186 ?_
  refine hs_weak (rc' := 0 + 3 * n) (rs' := 0 + 18 * n) (by omega) (by omega) ?_
  obtain ⟨r6, h6, h⟩ := hb_bind h
  obtain ⟨h6, nf6, hb6⟩ := hb_on_at h6
  refine hs_callVi (μ' := mX9_populate) (mc := 0) (ms := 0) (rc := (3 * n)) (rs := (18 * n)) (As := [.int (G.2.2.2.2.2 (x4 + (1 : Int32)).toNatClampNeg), .int (G.2.2.2.2.2 (x4 + (2 : Int32)).toNatClampNeg)]) (rest := []) (ci := 9) dL_law_1187 lmL_201 okX9_populate rfl (by decide) rfl (Nat.le_of_ble_eq_true rfl) rfl hb6 (c_X9_populate h6) ?_
  refine hs_istore (lv' := [(6, .int r6.1), (5, .int r3.1), (0, .retAddr 0), (1, .ref x1), (2, .ref x2), (3, .ref x3), (4, .int x4)]) dL_law_1190 (by decide) rfl ?_
  refine hs_aload_n dL_law_1192 4 rfl ?_
  refine hs_weak (rc' := 0 + 3 * n) (rs' := 0 + 18 * n) (by omega) (by omega) ?_
  obtain ⟨r7, h7, h⟩ := hb_bind h
  obtain ⟨h7, nf7, hb7⟩ := hb_on_at h7
  refine hs_callVi (μ' := mX9_thrown) (mc := 0) (ms := 0) (rc := (3 * n)) (rs := (18 * n)) (As := []) (rest := []) (ci := 9) dL_law_1193 lmL_140 okX9_thrown rfl (by decide) rfl (Nat.le_of_ble_eq_true rfl) rfl hb7 (c_X9_thrown h7) ?_
  refine hs_iload dL_law_1196 1 rfl ?_
  refine hs_icmp_eq (tgt := 1203) dL_law_1198 (by decide) (fun hc8 => ?_) (fun hc8 => ?_)
  · rw [if_pos hc8] at h
    refine hs_iload dL_law_1203 1 rfl ?_
    refine hs_if_ne (tgt := 1220) dL_law_1205 (by decide) (fun hc9 => ?_) (fun hc9 => ?_)
    · rw [if_neg hc9] at h
      refine hs_sub (lv' := [(0, .retAddr 0), (1, .ref x1), (2, .ref x2), (3, .ref x3), (4, .int x4)]) [2, 3, 4, 5, 6] rfl ?_
      refine hs_weak (rc' := (3 * n)) (rs' := (18 * n)) (by omega) (by omega) ?_
      exact c_L_law_b1220 hl k23 hk23 h
    · rw [if_pos hc9] at h
      refine hs_aload_n dL_law_1208 5 rfl ?_
      refine hs_iconst (v := (0 : Int32)) dL_law_1209 (by decide) ?_
      obtain ⟨r10, h10, h⟩ := hb_bind h
      refine hs_lald dL_law_1210 h10 ?_
      refine hs_iload dL_law_1211 0 rfl ?_
      refine hs_i2l dL_law_1213 ?_
      refine hs_lcmp dL_law_1214 ?_
      refine hs_if_eq (tgt := 1220) dL_law_1215 (by decide) (fun hc11 => ?_) (fun hc11 => ?_)
      · rw [if_pos hc11] at h
        refine hs_sub (lv' := [(0, .retAddr 0), (1, .ref x1), (2, .ref x2), (3, .ref x3), (4, .int x4)]) [2, 3, 4, 5, 6] rfl ?_
        refine hs_weak (rc' := (3 * n)) (rs' := (18 * n)) (by omega) (by omega) ?_
        exact c_L_law_b1220 hl k23 hk23 h
      · rw [if_neg hc11] at h
        refine hs_iconst (v := (0 : Int32)) dL_law_1218 (by decide) ?_
        obtain rfl := Option.some.inj h
        exact hs_ireturn dL_law_1219 rfl (by decide) (fun h => by cases h)
  · rw [if_neg hc8] at h
    refine hs_iconst (v := (0 : Int32)) dL_law_1201 (by decide) ?_
    obtain rfl := Option.some.inj h
    exact hs_ireturn dL_law_1202 rfl (by decide) (fun h => by cases h)
set_option maxHeartbeats 4000000 in
set_option maxRecDepth 20000 in
theorem c_L_law_b1152 {G : hb_G} {l : Launch} (hl : l.stackTraces = false) {n : Nat}  (k23 : Nat → Nat → Nat → Int32 → hb_M → Option (Int32 × hb_M)) (hk23 : ∀ (x1 : Nat) (x2 : Nat) (x3 : Nat) (x4 : Int32) (σ : hb_M) (r : (Int32 × hb_M)), k23 x1 x2 x3 x4 σ = some r → hb_T G l true mL_law 83 (3 * n) (18 * n) 23 [(0, .retAddr 0), (1, .ref x1), (2, .ref x2), (3, .ref x3), (4, .int x4)] [] σ (.inl (some (.int r.1)), r.2))  {x1 : Nat} {x2 : Nat} {x3 : Nat} {x4 : Int32} {σ : hb_M} {r : (Int32 × hb_M)} (h : f_L_law_b1152 G.2.2.2.2.1 G.2.2.2.2.2 k23 x1 x2 x3 x4 σ = some r) : hb_T G l true mL_law 83 (3 * n) (18 * n) 1152 [(0, .retAddr 0), (1, .ref x1), (2, .ref x2), (3, .ref x3), (4, .int x4)] [] σ (.inl (some (.int r.1)), r.2) := by
  unfold f_L_law_b1152 at h
  refine hs_goto (tgt := 2704) dL_law_1152 (by decide) ?_
  refine hs_sub (lv' := [(0, .retAddr 0), (1, .ref x1), (2, .ref x2), (3, .ref x3), (4, .int x4)]) [0, 1, 2, 3, 4] rfl ?_
  refine hs_weak (rc' := (3 * n)) (rs' := (18 * n)) (by omega) (by omega) ?_
  exact c_L_law_b2704 hl k23 hk23 h
