set_option maxHeartbeats 4000000 in
set_option maxRecDepth 20000 in
theorem c_L_law_b2454 {G : hb_G} {l : Launch} (hl : l.stackTraces = false) {n : Nat}  (k23 : Nat → Nat → Nat → Int32 → hb_M → Option (Int32 × hb_M)) (hk23 : ∀ (x1 : Nat) (x2 : Nat) (x3 : Nat) (x4 : Int32) (σ : hb_M) (r : (Int32 × hb_M)), k23 x1 x2 x3 x4 σ = some r → hb_T G l true mL_law 83 (3 * n) (18 * n) 23 [(0, .retAddr 0), (1, .ref x1), (2, .ref x2), (3, .ref x3), (4, .int x4)] [] σ (.inl (some (.int r.1)), r.2))  {x1 : Nat} {x2 : Nat} {x3 : Nat} {x4 : Int32} {σ : hb_M} {r : (Int32 × hb_M)} (h : f_L_law_b2454 G.2.2.2.2.1 G.2.2.2.2.2 k23 x1 x2 x3 x4 σ = some r) : hb_T G l true mL_law 83 (3 * n + 3) (18 * n + 18) 2454 [(0, .retAddr 0), (1, .ref x1), (2, .ref x2), (3, .ref x3), (4, .int x4)] [] σ (.inl (some (.int r.1)), r.2) := by
  unfold f_L_law_b2454 at h
  refine hs_aload_n dL_law_2454 1 rfl ?_
  refine hs_sload_n dL_law_2455 0 rfl ?_
  refine hs_iload dL_law_2456 4 rfl ?_
  refine hs_iconst (v := (1 : Int32)) dL_law_2458 (by decide) ?_
  refine hs_iadd dL_law_2459 ?_
  by_cases hc1 : (x4 + (1 : Int32)) < 0 ∨ G.2.2.2.2.1 ≤ (x4 + (1 : Int32)).toNatClampNeg
  · rw [if_pos hc1] at h
    cases h
  rw [if_neg hc1] at h
  refine hs_sld hc1 dL_law_2460 ?_
  refine hs_aload_n dL_law_2461 3 rfl ?_
  refine hs_weak (rc' := 1 + 3 * n) (rs' := 6 + 18 * n) (by omega) (by omega) ?_
  obtain ⟨r2, h2, h⟩ := hb_bind h
  refine hs_callSXi (μ' := mL_take) (mc := 1) (ms := 6) (rc := (3 * n)) (rs := (18 * n)) (As := [.ref x1, .int (G.2.2.2.2.2 (x4 + (1 : Int32)).toNatClampNeg), .ref x3]) (rest := []) dL_law_2462 lmL_278 okL_take rfl (by decide) rfl (Nat.le_of_ble_eq_true rfl) (c_L_take hl h2) ?_
  refine hs_istore (lv' := [(5, .int r2.1), (0, .retAddr 0), (1, .ref x1), (2, .ref x2), (3, .ref x3), (4, .int x4)]) dL_law_2465 (by decide) rfl ?_
  refine hs_aload_n dL_law_2467 3 rfl ?_
  refine hs_sload_n dL_law_2468 1 rfl ?_
  refine hs_iload dL_law_2469 5 rfl ?_
  refine hs_iconst (v := (1 : Int32)) dL_law_2471 (by decide) ?_
  refine hs_iadd dL_law_2472 ?_
  by_cases hc3 : (x4 + (1 : Int32)) < 0 ∨ G.2.2.2.2.1 ≤ (x4 + (1 : Int32)).toNatClampNeg
  · rw [if_pos hc3] at h
    cases h
  rw [if_neg hc3] at h
  refine hs_sld hc3 dL_law_2473 ?_
  refine hs_weak (rc' := 0 + 3 * n) (rs' := 0 + 18 * n) (by omega) (by omega) ?_
  obtain ⟨r4, h4, h⟩ := hb_bind h
  obtain ⟨h4, nf4, hb4⟩ := hb_on_at h4
  refine hs_callVi (μ' := mX9_take) (mc := 0) (ms := 0) (rc := (3 * n)) (rs := (18 * n)) (As := [.int (G.2.2.2.2.2 (x4 + (1 : Int32)).toNatClampNeg)]) (rest := []) (ci := 9) dL_law_2474 lmL_280 okX9_take rfl (by decide) rfl (Nat.le_of_ble_eq_true rfl) rfl hb4 (c_X9_take h4) ?_
  refine hs_istore (lv' := [(6, .int r4.1), (5, .int r2.1), (0, .retAddr 0), (1, .ref x1), (2, .ref x2), (3, .ref x3), (4, .int x4)]) dL_law_2477 (by decide) rfl ?_
  refine hs_aload_n dL_law_2479 4 rfl ?_
  refine hs_weak (rc' := 0 + 3 * n) (rs' := 0 + 18 * n) (by omega) (by omega) ?_
  obtain ⟨r5, h5, h⟩ := hb_bind h
  obtain ⟨h5, nf5, hb5⟩ := hb_on_at h5
  refine hs_callVi (μ' := mX9_thrown) (mc := 0) (ms := 0) (rc := (3 * n)) (rs := (18 * n)) (As := []) (rest := []) (ci := 9) dL_law_2480 lmL_140 okX9_thrown rfl (by decide) rfl (Nat.le_of_ble_eq_true rfl) rfl hb5 (c_X9_thrown h5) ?_
  refine hs_iload dL_law_2483 1 rfl ?_
  refine hs_icmp_eq (tgt := 2490) dL_law_2485 (by decide) (fun hc6 => ?_) (fun hc6 => ?_)
  · rw [if_pos hc6] at h
    refine hs_iload dL_law_2490 1 rfl ?_
    refine hs_if_ne (tgt := 2507) dL_law_2492 (by decide) (fun hc7 => ?_) (fun hc7 => ?_)
    · rw [if_neg hc7] at h
      refine hs_sub (lv' := [(0, .retAddr 0), (1, .ref x1), (2, .ref x2), (3, .ref x3), (4, .int x4)]) [2, 3, 4, 5, 6] rfl ?_
      refine hs_weak (rc' := (3 * n)) (rs' := (18 * n)) (by omega) (by omega) ?_
      exact c_L_law_b2507 hl k23 hk23 h
    · rw [if_pos hc7] at h
      refine hs_aload_n dL_law_2495 5 rfl ?_
      refine hs_iconst (v := (0 : Int32)) dL_law_2496 (by decide) ?_
      obtain ⟨r8, h8, h⟩ := hb_bind h
      refine hs_lald dL_law_2497 h8 ?_
      refine hs_iload dL_law_2498 0 rfl ?_
      refine hs_i2l dL_law_2500 ?_
      refine hs_lcmp dL_law_2501 ?_
      refine hs_if_eq (tgt := 2507) dL_law_2502 (by decide) (fun hc9 => ?_) (fun hc9 => ?_)
      · rw [if_pos hc9] at h
        refine hs_sub (lv' := [(0, .retAddr 0), (1, .ref x1), (2, .ref x2), (3, .ref x3), (4, .int x4)]) [2, 3, 4, 5, 6] rfl ?_
        refine hs_weak (rc' := (3 * n)) (rs' := (18 * n)) (by omega) (by omega) ?_
        exact c_L_law_b2507 hl k23 hk23 h
      · rw [if_neg hc9] at h
        refine hs_iconst (v := (0 : Int32)) dL_law_2505 (by decide) ?_
        obtain rfl := Option.some.inj h
        exact hs_ireturn dL_law_2506 rfl (by decide) (fun h => by cases h)
  · rw [if_neg hc6] at h
    refine hs_iconst (v := (0 : Int32)) dL_law_2488 (by decide) ?_
    obtain rfl := Option.some.inj h
    exact hs_ireturn dL_law_2489 rfl (by decide) (fun h => by cases h)
set_option maxHeartbeats 4000000 in
set_option maxRecDepth 20000 in
theorem c_L_law_b2441 {G : hb_G} {l : Launch} (hl : l.stackTraces = false) {n : Nat}  (k23 : Nat → Nat → Nat → Int32 → hb_M → Option (Int32 × hb_M)) (hk23 : ∀ (x1 : Nat) (x2 : Nat) (x3 : Nat) (x4 : Int32) (σ : hb_M) (r : (Int32 × hb_M)), k23 x1 x2 x3 x4 σ = some r → hb_T G l true mL_law 83 (3 * n) (18 * n) 23 [(0, .retAddr 0), (1, .ref x1), (2, .ref x2), (3, .ref x3), (4, .int x4)] [] σ (.inl (some (.int r.1)), r.2))  {x1 : Nat} {x2 : Nat} {x3 : Nat} {x4 : Int32} {σ : hb_M} {r : (Int32 × hb_M)} (h : f_L_law_b2441 G.2.2.2.2.1 G.2.2.2.2.2 k23 x1 x2 x3 x4 σ = some r) : hb_T G l true mL_law 83 (3 * n + 3) (18 * n + 18) 2441 [(0, .retAddr 0), (1, .ref x1), (2, .ref x2), (3, .ref x3), (4, .int x4)] [] σ (.inl (some (.int r.1)), r.2) := by
  unfold f_L_law_b2441 at h
  refine hs_aload_n dL_law_2441 1 rfl ?_
  refine hs_weak (rc' := 0 + 3 * n) (rs' := 0 + 18 * n) (by omega) (by omega) ?_
  obtain ⟨r1, h1, h⟩ := hb_bind h
  obtain ⟨h1, nf1, hb1⟩ := hb_on_at h1
  refine hs_callVi (μ' := mX8_execute) (mc := 0) (ms := 0) (rc := (3 * n)) (rs := (18 * n)) (As := []) (rest := []) (ci := 8) dL_law_2442 lmL_274 okX8_execute rfl (by decide) rfl (Nat.le_of_ble_eq_true rfl) rfl hb1 (c_X8_execute h1) ?_
  refine hs_aload_n dL_law_2445 2 rfl ?_
  refine hs_weak (rc' := 0 + 3 * n) (rs' := 0 + 18 * n) (by omega) (by omega) ?_
  obtain ⟨r2, h2, h⟩ := hb_bind h
  obtain ⟨h2, nf2, hb2⟩ := hb_on_at h2
  refine hs_callVi (μ' := mX9_execute) (mc := 0) (ms := 0) (rc := (3 * n)) (rs := (18 * n)) (As := []) (rest := [.int r1.1]) (ci := 9) dL_law_2446 lmL_277 okX9_execute rfl (by decide) rfl (Nat.le_of_ble_eq_true rfl) rfl hb2 (c_X9_execute h2) ?_
  refine hs_icmp_eq (tgt := 2704) dL_law_2449 (by decide) (fun hc3 => ?_) (fun hc3 => ?_)
  · rw [if_pos hc3] at h
    refine hs_sub (lv' := [(0, .retAddr 0), (1, .ref x1), (2, .ref x2), (3, .ref x3), (4, .int x4)]) [0, 1, 2, 3, 4] rfl ?_
    refine hs_weak (rc' := (3 * n)) (rs' := (18 * n)) (by omega) (by omega) ?_
    exact c_L_law_b2704 hl k23 hk23 h
  · rw [if_neg hc3] at h
    refine hs_iconst (v := (0 : Int32)) dL_law_2452 (by decide) ?_
    obtain rfl := Option.some.inj h
    exact hs_ireturn dL_law_2453 rfl (by decide) (fun h => by cases h)
set_option maxHeartbeats 4000000 in
set_option maxRecDepth 20000 in
theorem c_L_law_b2433 {G : hb_G} {l : Launch} (hl : l.stackTraces = false) {n : Nat}  (k23 : Nat → Nat → Nat → Int32 → hb_M → Option (Int32 × hb_M)) (hk23 : ∀ (x1 : Nat) (x2 : Nat) (x3 : Nat) (x4 : Int32) (σ : hb_M) (r : (Int32 × hb_M)), k23 x1 x2 x3 x4 σ = some r → hb_T G l true mL_law 83 (3 * n) (18 * n) 23 [(0, .retAddr 0), (1, .ref x1), (2, .ref x2), (3, .ref x3), (4, .int x4)] [] σ (.inl (some (.int r.1)), r.2))  {x1 : Nat} {x2 : Nat} {x3 : Nat} {x4 : Int32} {s0 : Int32} {s1 : Nat} {s2 : Int32} {σ : hb_M} {r : (Int32 × hb_M)} (h : f_L_law_b2433 G.2.2.2.2.1 G.2.2.2.2.2 k23 x1 x2 x3 x4 s0 s1 s2 σ = some r) : hb_T G l true mL_law 83 (3 * n) (18 * n) 2433 [(0, .retAddr 0), (1, .ref x1), (2, .ref x2), (3, .ref x3), (4, .int x4)] [.int s2, .ref s1, .int s0] σ (.inl (some (.int r.1)), r.2) := by
  unfold f_L_law_b2433 at h
  refine hs_weak (rc' := 0 + 3 * n) (rs' := 0 + 18 * n) (by omega) (by omega) ?_
  obtain ⟨r1, h1, h⟩ := hb_bind h
  obtain ⟨h1, nf1, hb1⟩ := hb_on_at h1
  refine hs_callVi (μ' := mX9_matchSize) (mc := 0) (ms := 0) (rc := (3 * n)) (rs := (18 * n)) (As := [.int s2]) (rest := [.int s0]) (ci := 9) dL_law_2433 lmL_273 okX9_matchSize rfl (by decide) rfl (Nat.le_of_ble_eq_true rfl) rfl hb1 (c_X9_matchSize h1) ?_
  refine hs_icmp_eq (tgt := 2704) dL_law_2436 (by decide) (fun hc2 => ?_) (fun hc2 => ?_)
  · rw [if_pos hc2] at h
    refine hs_sub (lv' := [(0, .retAddr 0), (1, .ref x1), (2, .ref x2), (3, .ref x3), (4, .int x4)]) [0, 1, 2, 3, 4] rfl ?_
    refine hs_weak (rc' := (3 * n)) (rs' := (18 * n)) (by omega) (by omega) ?_
    exact c_L_law_b2704 hl k23 hk23 h
  · rw [if_neg hc2] at h
    refine hs_iconst (v := (0 : Int32)) dL_law_2439 (by decide) ?_
    obtain rfl := Option.some.inj h
    exact hs_ireturn dL_law_2440 rfl (by decide) (fun h => by cases h)
set_option maxHeartbeats 4000000 in
set_option maxRecDepth 20000 in
theorem c_L_law_b2415 {G : hb_G} {l : Launch} (hl : l.stackTraces = false) {n : Nat}  (k23 : Nat → Nat → Nat → Int32 → hb_M → Option (Int32 × hb_M)) (hk23 : ∀ (x1 : Nat) (x2 : Nat) (x3 : Nat) (x4 : Int32) (σ : hb_M) (r : (Int32 × hb_M)), k23 x1 x2 x3 x4 σ = some r → hb_T G l true mL_law 83 (3 * n) (18 * n) 23 [(0, .retAddr 0), (1, .ref x1), (2, .ref x2), (3, .ref x3), (4, .int x4)] [] σ (.inl (some (.int r.1)), r.2))  {x1 : Nat} {x2 : Nat} {x3 : Nat} {x4 : Int32} {s0 : Nat} {s1 : Int32} {σ : hb_M} {r : (Int32 × hb_M)} (h : f_L_law_b2415 G.2.2.2.2.1 G.2.2.2.2.2 k23 x1 x2 x3 x4 s0 s1 σ = some r) : hb_T G l true mL_law 83 (3 * n) (18 * n) 2415 [(0, .retAddr 0), (1, .ref x1), (2, .ref x2), (3, .ref x3), (4, .int x4)] [.int s1, .ref s0] σ (.inl (some (.int r.1)), r.2) := by
  unfold f_L_law_b2415 at h
  refine hs_weak (rc' := 0 + 3 * n) (rs' := 0 + 18 * n) (by omega) (by omega) ?_
  obtain ⟨r1, h1, h⟩ := hb_bind h
  obtain ⟨h1, nf1, hb1⟩ := hb_on_at h1
  refine hs_callVi (μ' := mX8_matchSize) (mc := 0) (ms := 0) (rc := (3 * n)) (rs := (18 * n)) (As := [.int s1]) (rest := []) (ci := 8) dL_law_2415 lmL_269 okX8_matchSize rfl (by decide) rfl (Nat.le_of_ble_eq_true rfl) rfl hb1 (c_X8_matchSize h1) ?_
  refine hs_aload_n dL_law_2418 2 rfl ?_
  refine hs_sload_n dL_law_2419 0 rfl ?_
  refine hs_iload dL_law_2420 4 rfl ?_
  refine hs_iconst (v := (1 : Int32)) dL_law_2422 (by decide) ?_
  refine hs_iadd dL_law_2423 ?_
  by_cases hc2 : (x4 + (1 : Int32)) < 0 ∨ G.2.2.2.2.1 ≤ (x4 + (1 : Int32)).toNatClampNeg
  · rw [if_pos hc2] at h
    cases h
  rw [if_neg hc2] at h
  refine hs_sld hc2 dL_law_2424 ?_
  refine hs_if_eq (tgt := 2432) dL_law_2425 (by decide) (fun hc3 => ?_) (fun hc3 => ?_)
  · rw [if_pos hc3] at h
    refine hs_iconst (v := (0 : Int32)) dL_law_2432 (by decide) ?_
    refine hs_sub (lv' := [(0, .retAddr 0), (1, .ref x1), (2, .ref x2), (3, .ref x3), (4, .int x4)]) [0, 1, 2, 3, 4] rfl ?_
    refine hs_weak (rc' := (3 * n)) (rs' := (18 * n)) (by omega) (by omega) ?_
    exact c_L_law_b2433 hl k23 hk23 h
  · rw [if_neg hc3] at h
    refine hs_iconst (v := (1 : Int32)) dL_law_2428 (by decide) ?_
    refine hs_goto (tgt := 2433) dL_law_2429 (by decide) ?_
    refine hs_sub (lv' := [(0, .retAddr 0), (1, .ref x1), (2, .ref x2), (3, .ref x3), (4, .int x4)]) [0, 1, 2, 3, 4] rfl ?_
    refine hs_weak (rc' := (3 * n)) (rs' := (18 * n)) (by omega) (by omega) ?_
    exact c_L_law_b2433 hl k23 hk23 h
set_option maxHeartbeats 4000000 in
set_option maxRecDepth 20000 in
theorem c_L_law_b2400 {G : hb_G} {l : Launch} (hl : l.stackTraces = false) {n : Nat}  (k23 : Nat → Nat → Nat → Int32 → hb_M → Option (Int32 × hb_M)) (hk23 : ∀ (x1 : Nat) (x2 : Nat) (x3 : Nat) (x4 : Int32) (σ : hb_M) (r : (Int32 × hb_M)), k23 x1 x2 x3 x4 σ = some r → hb_T G l true mL_law 83 (3 * n) (18 * n) 23 [(0, .retAddr 0), (1, .ref x1), (2, .ref x2), (3, .ref x3), (4, .int x4)] [] σ (.inl (some (.int r.1)), r.2))  {x1 : Nat} {x2 : Nat} {x3 : Nat} {x4 : Int32} {σ : hb_M} {r : (Int32 × hb_M)} (h : f_L_law_b2400 G.2.2.2.2.1 G.2.2.2.2.2 k23 x1 x2 x3 x4 σ = some r) : hb_T G l true mL_law 83 (3 * n + 3) (18 * n + 18) 2400 [(0, .retAddr 0), (1, .ref x1), (2, .ref x2), (3, .ref x3), (4, .int x4)] [] σ (.inl (some (.int r.1)), r.2) := by
  unfold f_L_law_b2400 at h
  refine hs_aload_n dL_law_2400 1 rfl ?_
  refine hs_sload_n dL_law_2401 0 rfl ?_
  refine hs_iload dL_law_2402 4 rfl ?_
  refine hs_iconst (v := (1 : Int32)) dL_law_2404 (by decide) ?_
  refine hs_iadd dL_law_2405 ?_
  by_cases hc1 : (x4 + (1 : Int32)) < 0 ∨ G.2.2.2.2.1 ≤ (x4 + (1 : Int32)).toNatClampNeg
  · rw [if_pos hc1] at h
    cases h
  rw [if_neg hc1] at h
  refine hs_sld hc1 dL_law_2406 ?_
  refine hs_if_eq (tgt := 2414) dL_law_2407 (by decide) (fun hc2 => ?_) (fun hc2 => ?_)
  · rw [if_pos hc2] at h
    refine hs_iconst (v := (0 : Int32)) dL_law_2414 (by decide) ?_
    refine hs_sub (lv' := [(0, .retAddr 0), (1, .ref x1), (2, .ref x2), (3, .ref x3), (4, .int x4)]) [0, 1, 2, 3, 4] rfl ?_
    refine hs_weak (rc' := (3 * n)) (rs' := (18 * n)) (by omega) (by omega) ?_
    exact c_L_law_b2415 hl k23 hk23 h
  · rw [if_neg hc2] at h
    refine hs_iconst (v := (1 : Int32)) dL_law_2410 (by decide) ?_
    refine hs_goto (tgt := 2415) dL_law_2411 (by decide) ?_
    refine hs_sub (lv' := [(0, .retAddr 0), (1, .ref x1), (2, .ref x2), (3, .ref x3), (4, .int x4)]) [0, 1, 2, 3, 4] rfl ?_
    refine hs_weak (rc' := (3 * n)) (rs' := (18 * n)) (by omega) (by omega) ?_
    exact c_L_law_b2415 hl k23 hk23 h
set_option maxHeartbeats 4000000 in
set_option maxRecDepth 20000 in
theorem c_L_law_b2375 {G : hb_G} {l : Launch} (hl : l.stackTraces = false) {n : Nat}  (k23 : Nat → Nat → Nat → Int32 → hb_M → Option (Int32 × hb_M)) (hk23 : ∀ (x1 : Nat) (x2 : Nat) (x3 : Nat) (x4 : Int32) (σ : hb_M) (r : (Int32 × hb_M)), k23 x1 x2 x3 x4 σ = some r → hb_T G l true mL_law 83 (3 * n) (18 * n) 23 [(0, .retAddr 0), (1, .ref x1), (2, .ref x2), (3, .ref x3), (4, .int x4)] [] σ (.inl (some (.int r.1)), r.2))  {x1 : Nat} {x2 : Nat} {x3 : Nat} {x4 : Int32} {σ : hb_M} {r : (Int32 × hb_M)} (h : f_L_law_b2375 G.2.2.2.2.1 G.2.2.2.2.2 k23 x1 x2 x3 x4 σ = some r) : hb_T G l true mL_law 83 (3 * n + 3) (18 * n + 18) 2375 [(0, .retAddr 0), (1, .ref x1), (2, .ref x2), (3, .ref x3), (4, .int x4)] [] σ (.inl (some (.int r.1)), r.2) := by
  unfold f_L_law_b2375 at h
  refine hs_aload_n dL_law_2375 1 rfl ?_
  refine hs_sload_n dL_law_2376 0 rfl ?_
  refine hs_iload dL_law_2377 4 rfl ?_
  refine hs_iconst (v := (1 : Int32)) dL_law_2379 (by decide) ?_
  refine hs_iadd dL_law_2380 ?_
  by_cases hc1 : (x4 + (1 : Int32)) < 0 ∨ G.2.2.2.2.1 ≤ (x4 + (1 : Int32)).toNatClampNeg
  · rw [if_pos hc1] at h
    cases h
  rw [if_neg hc1] at h
  refine hs_sld hc1 dL_law_2381 ?_
  refine hs_weak (rc' := 0 + 3 * n) (rs' := 0 + 18 * n) (by omega) (by omega) ?_
  obtain ⟨r2, h2, h⟩ := hb_bind h
  obtain ⟨h2, nf2, hb2⟩ := hb_on_at h2
  refine hs_callVi (μ' := mX8_matchAt) (mc := 0) (ms := 0) (rc := (3 * n)) (rs := (18 * n)) (As := [.int (G.2.2.2.2.2 (x4 + (1 : Int32)).toNatClampNeg)]) (rest := []) (ci := 8) dL_law_2382 lmL_265 okX8_matchAt rfl (by decide) rfl (Nat.le_of_ble_eq_true rfl) rfl hb2 (c_X8_matchAt h2) ?_
  refine hs_aload_n dL_law_2385 2 rfl ?_
  refine hs_sload_n dL_law_2386 0 rfl ?_
  refine hs_iload dL_law_2387 4 rfl ?_
  refine hs_iconst (v := (1 : Int32)) dL_law_2389 (by decide) ?_
  refine hs_iadd dL_law_2390 ?_
  by_cases hc3 : (x4 + (1 : Int32)) < 0 ∨ G.2.2.2.2.1 ≤ (x4 + (1 : Int32)).toNatClampNeg
  · rw [if_pos hc3] at h
    cases h
  rw [if_neg hc3] at h
  refine hs_sld hc3 dL_law_2391 ?_
  refine hs_weak (rc' := 0 + 3 * n) (rs' := 0 + 18 * n) (by omega) (by omega) ?_
  obtain ⟨r4, h4, h⟩ := hb_bind h
  obtain ⟨h4, nf4, hb4⟩ := hb_on_at h4
  refine hs_callVi (μ' := mX9_matchAt) (mc := 0) (ms := 0) (rc := (3 * n)) (rs := (18 * n)) (As := [.int (G.2.2.2.2.2 (x4 + (1 : Int32)).toNatClampNeg)]) (rest := [.int r2.1]) (ci := 9) dL_law_2392 lmL_268 okX9_matchAt rfl (by decide) rfl (Nat.le_of_ble_eq_true rfl) rfl hb4 (c_X9_matchAt h4) ?_
  refine hs_icmp_eq (tgt := 2704) dL_law_2395 (by decide) (fun hc5 => ?_) (fun hc5 => ?_)
  · rw [if_pos hc5] at h
    refine hs_sub (lv' := [(0, .retAddr 0), (1, .ref x1), (2, .ref x2), (3, .ref x3), (4, .int x4)]) [0, 1, 2, 3, 4] rfl ?_
    refine hs_weak (rc' := (3 * n)) (rs' := (18 * n)) (by omega) (by omega) ?_
    exact c_L_law_b2704 hl k23 hk23 h
  · rw [if_neg hc5] at h
    refine hs_iconst (v := (0 : Int32)) dL_law_2398 (by decide) ?_
    obtain rfl := Option.some.inj h
    exact hs_ireturn dL_law_2399 rfl (by decide) (fun h => by cases h)
set_option maxHeartbeats 4000000 in
set_option maxRecDepth 20000 in
theorem c_L_law_b2362 {G : hb_G} {l : Launch} (hl : l.stackTraces = false) {n : Nat}  (k23 : Nat → Nat → Nat → Int32 → hb_M → Option (Int32 × hb_M)) (hk23 : ∀ (x1 : Nat) (x2 : Nat) (x3 : Nat) (x4 : Int32) (σ : hb_M) (r : (Int32 × hb_M)), k23 x1 x2 x3 x4 σ = some r → hb_T G l true mL_law 83 (3 * n) (18 * n) 23 [(0, .retAddr 0), (1, .ref x1), (2, .ref x2), (3, .ref x3), (4, .int x4)] [] σ (.inl (some (.int r.1)), r.2))  {x1 : Nat} {x2 : Nat} {x3 : Nat} {x4 : Int32} {σ : hb_M} {r : (Int32 × hb_M)} (h : f_L_law_b2362 G.2.2.2.2.1 G.2.2.2.2.2 k23 x1 x2 x3 x4 σ = some r) : hb_T G l true mL_law 83 (3 * n + 3) (18 * n + 18) 2362 [(0, .retAddr 0), (1, .ref x1), (2, .ref x2), (3, .ref x3), (4, .int x4)] [] σ (.inl (some (.int r.1)), r.2) := by
  unfold f_L_law_b2362 at h
  refine hs_aload_n dL_law_2362 1 rfl ?_
  refine hs_weak (rc' := 0 + 3 * n) (rs' := 0 + 18 * n) (by omega) (by omega) ?_
  obtain ⟨r1, h1, h⟩ := hb_bind h
  obtain ⟨h1, nf1, hb1⟩ := hb_on_at h1
  refine hs_callVi (μ' := mX8_matches) (mc := 0) (ms := 0) (rc := (3 * n)) (rs := (18 * n)) (As := []) (rest := []) (ci := 8) dL_law_2363 lmL_261 okX8_matches rfl (by decide) rfl (Nat.le_of_ble_eq_true rfl) rfl hb1 (c_X8_matches h1) ?_
  refine hs_aload_n dL_law_2366 2 rfl ?_
  refine hs_weak (rc' := 0 + 3 * n) (rs' := 0 + 18 * n) (by omega) (by omega) ?_
  obtain ⟨r2, h2, h⟩ := hb_bind h
  obtain ⟨h2, nf2, hb2⟩ := hb_on_at h2
  refine hs_callVi (μ' := mX9_matches) (mc := 0) (ms := 0) (rc := (3 * n)) (rs := (18 * n)) (As := []) (rest := [.int r1.1]) (ci := 9) dL_law_2367 lmL_264 okX9_matches rfl (by decide) rfl (Nat.le_of_ble_eq_true rfl) rfl hb2 (c_X9_matches h2) ?_
  refine hs_icmp_eq (tgt := 2704) dL_law_2370 (by decide) (fun hc3 => ?_) (fun hc3 => ?_)
  · rw [if_pos hc3] at h
    refine hs_sub (lv' := [(0, .retAddr 0), (1, .ref x1), (2, .ref x2), (3, .ref x3), (4, .int x4)]) [0, 1, 2, 3, 4] rfl ?_
    refine hs_weak (rc' := (3 * n)) (rs' := (18 * n)) (by omega) (by omega) ?_
    exact c_L_law_b2704 hl k23 hk23 h
  · rw [if_neg hc3] at h
    refine hs_iconst (v := (0 : Int32)) dL_law_2373 (by decide) ?_
    obtain rfl := Option.some.inj h
    exact hs_ireturn dL_law_2374 rfl (by decide) (fun h => by cases h)
set_option maxHeartbeats 4000000 in
set_option maxRecDepth 20000 in
theorem c_L_law_b2349 {G : hb_G} {l : Launch} (hl : l.stackTraces = false) {n : Nat}  (k23 : Nat → Nat → Nat → Int32 → hb_M → Option (Int32 × hb_M)) (hk23 : ∀ (x1 : Nat) (x2 : Nat) (x3 : Nat) (x4 : Int32) (σ : hb_M) (r : (Int32 × hb_M)), k23 x1 x2 x3 x4 σ = some r → hb_T G l true mL_law 83 (3 * n) (18 * n) 23 [(0, .retAddr 0), (1, .ref x1), (2, .ref x2), (3, .ref x3), (4, .int x4)] [] σ (.inl (some (.int r.1)), r.2))  {x1 : Nat} {x2 : Nat} {x3 : Nat} {x4 : Int32} {σ : hb_M} {r : (Int32 × hb_M)} (h : f_L_law_b2349 G.2.2.2.2.1 G.2.2.2.2.2 k23 x1 x2 x3 x4 σ = some r) : hb_T G l true mL_law 83 (3 * n + 3) (18 * n + 18) 2349 [(0, .retAddr 0), (1, .ref x1), (2, .ref x2), (3, .ref x3), (4, .int x4)] [] σ (.inl (some (.int r.1)), r.2) := by
  unfold f_L_law_b2349 at h
  refine hs_aload_n dL_law_2349 1 rfl ?_
  refine hs_weak (rc' := 0 + 3 * n) (rs' := 0 + 18 * n) (by omega) (by omega) ?_
  obtain ⟨r1, h1, h⟩ := hb_bind h
  obtain ⟨h1, nf1, hb1⟩ := hb_on_at h1
  refine hs_callVi (μ' := mX8_clearText) (mc := 0) (ms := 0) (rc := (3 * n)) (rs := (18 * n)) (As := []) (rest := []) (ci := 8) dL_law_2350 lmL_257 okX8_clearText rfl (by decide) rfl (Nat.le_of_ble_eq_true rfl) rfl hb1 (c_X8_clearText h1) ?_
  refine hs_aload_n dL_law_2353 2 rfl ?_
  refine hs_weak (rc' := 0 + 3 * n) (rs' := 0 + 18 * n) (by omega) (by omega) ?_
  obtain ⟨r2, h2, h⟩ := hb_bind h
  obtain ⟨h2, nf2, hb2⟩ := hb_on_at h2
  refine hs_callVi (μ' := mX9_clearText) (mc := 0) (ms := 0) (rc := (3 * n)) (rs := (18 * n)) (As := []) (rest := [.int r1.1]) (ci := 9) dL_law_2354 lmL_260 okX9_clearText rfl (by decide) rfl (Nat.le_of_ble_eq_true rfl) rfl hb2 (c_X9_clearText h2) ?_
  refine hs_icmp_eq (tgt := 2704) dL_law_2357 (by decide) (fun hc3 => ?_) (fun hc3 => ?_)
  · rw [if_pos hc3] at h
    refine hs_sub (lv' := [(0, .retAddr 0), (1, .ref x1), (2, .ref x2), (3, .ref x3), (4, .int x4)]) [0, 1, 2, 3, 4] rfl ?_
    refine hs_weak (rc' := (3 * n)) (rs' := (18 * n)) (by omega) (by omega) ?_
    exact c_L_law_b2704 hl k23 hk23 h
  · rw [if_neg hc3] at h
    refine hs_iconst (v := (0 : Int32)) dL_law_2360 (by decide) ?_
    obtain rfl := Option.some.inj h
    exact hs_ireturn dL_law_2361 rfl (by decide) (fun h => by cases h)
set_option maxHeartbeats 4000000 in
set_option maxRecDepth 20000 in
theorem c_L_law_b2346 {G : hb_G} {l : Launch} (hl : l.stackTraces = false) {n : Nat}  (k23 : Nat → Nat → Nat → Int32 → hb_M → Option (Int32 × hb_M)) (hk23 : ∀ (x1 : Nat) (x2 : Nat) (x3 : Nat) (x4 : Int32) (σ : hb_M) (r : (Int32 × hb_M)), k23 x1 x2 x3 x4 σ = some r → hb_T G l true mL_law 83 (3 * n) (18 * n) 23 [(0, .retAddr 0), (1, .ref x1), (2, .ref x2), (3, .ref x3), (4, .int x4)] [] σ (.inl (some (.int r.1)), r.2))  {x1 : Nat} {x2 : Nat} {x3 : Nat} {x4 : Int32} {σ : hb_M} {r : (Int32 × hb_M)} (h : f_L_law_b2346 G.2.2.2.2.1 G.2.2.2.2.2 k23 x1 x2 x3 x4 σ = some r) : hb_T G l true mL_law 83 (3 * n) (18 * n) 2346 [(0, .retAddr 0), (1, .ref x1), (2, .ref x2), (3, .ref x3), (4, .int x4)] [] σ (.inl (some (.int r.1)), r.2) := by
  unfold f_L_law_b2346 at h
  refine hs_goto (tgt := 2704) dL_law_2346 (by decide) ?_
  refine hs_sub (lv' := [(0, .retAddr 0), (1, .ref x1), (2, .ref x2), (3, .ref x3), (4, .int x4)]) [0, 1, 2, 3, 4] rfl ?_
  refine hs_weak (rc' := (3 * n)) (rs' := (18 * n)) (by omega) (by omega) ?_
  exact c_L_law_b2704 hl k23 hk23 h
set_option maxHeartbeats 4000000 in
set_option maxRecDepth 20000 in
theorem c_L_law_b2293 {G : hb_G} {l : Launch} (hl : l.stackTraces = false) {n : Nat}  (k23 : Nat → Nat → Nat → Int32 → hb_M → Option (Int32 × hb_M)) (hk23 : ∀ (x1 : Nat) (x2 : Nat) (x3 : Nat) (x4 : Int32) (σ : hb_M) (r : (Int32 × hb_M)), k23 x1 x2 x3 x4 σ = some r → hb_T G l true mL_law 83 (3 * n) (18 * n) 23 [(0, .retAddr 0), (1, .ref x1), (2, .ref x2), (3, .ref x3), (4, .int x4)] [] σ (.inl (some (.int r.1)), r.2))  {x1 : Nat} {x2 : Nat} {x3 : Nat} {x4 : Int32} {σ : hb_M} {r : (Int32 × hb_M)} (h : f_L_law_b2293 G.2.2.2.2.1 G.2.2.2.2.2 k23 x1 x2 x3 x4 σ = some r) : hb_T G l true mL_law 83 (3 * n + 3) (18 * n + 18) 2293 [(0, .retAddr 0), (1, .ref x1), (2, .ref x2), (3, .ref x3), (4, .int x4)] [] σ (.inl (some (.int r.1)), r.2) := by
  unfold f_L_law_b2293 at h
  refine hs_aload_n dL_law_2293 1 rfl ?_
  refine hs_sload_n dL_law_2294 0 rfl ?_
  refine hs_iload dL_law_2295 4 rfl ?_
  refine hs_iconst (v := (1 : Int32)) dL_law_2297 (by decide) ?_
  refine hs_iadd dL_law_2298 ?_
  by_cases hc1 : (x4 + (1 : Int32)) < 0 ∨ G.2.2.2.2.1 ≤ (x4 + (1 : Int32)).toNatClampNeg
  · rw [if_pos hc1] at h
    cases h
  rw [if_neg hc1] at h
  refine hs_sld hc1 dL_law_2299 ?_
  refine hs_aload_n dL_law_2300 3 rfl ?_
  refine hs_weak (rc' := 2 + 3 * n) (rs' := 12 + 18 * n) (by omega) (by omega) ?_
  obtain ⟨r2, h2, h⟩ := hb_bind h
  refine hs_callSXi (μ' := mL_append) (mc := 2) (ms := 12) (rc := (3 * n)) (rs := (18 * n)) (As := [.ref x1, .int (G.2.2.2.2.2 (x4 + (1 : Int32)).toNatClampNeg), .ref x3]) (rest := []) dL_law_2301 lmL_254 okL_append rfl (by decide) rfl (Nat.le_of_ble_eq_true rfl) (c_L_append hl h2) ?_
  refine hs_istore (lv' := [(5, .int r2.1), (0, .retAddr 0), (1, .ref x1), (2, .ref x2), (3, .ref x3), (4, .int x4)]) dL_law_2304 (by decide) rfl ?_
  refine hs_aload_n dL_law_2306 3 rfl ?_
  refine hs_sload_n dL_law_2307 1 rfl ?_
  refine hs_iload dL_law_2308 5 rfl ?_
  refine hs_iconst (v := (1 : Int32)) dL_law_2310 (by decide) ?_
  refine hs_iadd dL_law_2311 ?_
  by_cases hc3 : (x4 + (1 : Int32)) < 0 ∨ G.2.2.2.2.1 ≤ (x4 + (1 : Int32)).toNatClampNeg
  · rw [if_pos hc3] at h
    cases h
  rw [if_neg hc3] at h
  refine hs_sld hc3 dL_law_2312 ?_
  refine hs_weak (rc' := 0 + 3 * n) (rs' := 0 + 18 * n) (by omega) (by omega) ?_
  obtain ⟨r4, h4, h⟩ := hb_bind h
  obtain ⟨h4, nf4, hb4⟩ := hb_on_at h4
  refine hs_callVi (μ' := mX9_append) (mc := 0) (ms := 0) (rc := (3 * n)) (rs := (18 * n)) (As := [.int (G.2.2.2.2.2 (x4 + (1 : Int32)).toNatClampNeg)]) (rest := []) (ci := 9) dL_law_2313 lmL_256 okX9_append rfl (by decide) rfl (Nat.le_of_ble_eq_true rfl) rfl hb4 (c_X9_append h4) ?_
  refine hs_istore (lv' := [(6, .int r4.1), (5, .int r2.1), (0, .retAddr 0), (1, .ref x1), (2, .ref x2), (3, .ref x3), (4, .int x4)]) dL_law_2316 (by decide) rfl ?_
  refine hs_aload_n dL_law_2318 4 rfl ?_
  refine hs_weak (rc' := 0 + 3 * n) (rs' := 0 + 18 * n) (by omega) (by omega) ?_
  obtain ⟨r5, h5, h⟩ := hb_bind h
  obtain ⟨h5, nf5, hb5⟩ := hb_on_at h5
  refine hs_callVi (μ' := mX9_thrown) (mc := 0) (ms := 0) (rc := (3 * n)) (rs := (18 * n)) (As := []) (rest := []) (ci := 9) dL_law_2319 lmL_140 okX9_thrown rfl (by decide) rfl (Nat.le_of_ble_eq_true rfl) rfl hb5 (c_X9_thrown h5) ?_
  refine hs_iload dL_law_2322 1 rfl ?_
  refine hs_icmp_eq (tgt := 2329) dL_law_2324 (by decide) (fun hc6 => ?_) (fun hc6 => ?_)
  · rw [if_pos hc6] at h
    refine hs_iload dL_law_2329 1 rfl ?_
    refine hs_if_ne (tgt := 2346) dL_law_2331 (by decide) (fun hc7 => ?_) (fun hc7 => ?_)
    · rw [if_neg hc7] at h
      refine hs_sub (lv' := [(0, .retAddr 0), (1, .ref x1), (2, .ref x2), (3, .ref x3), (4, .int x4)]) [2, 3, 4, 5, 6] rfl ?_
      refine hs_weak (rc' := (3 * n)) (rs' := (18 * n)) (by omega) (by omega) ?_
      exact c_L_law_b2346 hl k23 hk23 h
    · rw [if_pos hc7] at h
      refine hs_aload_n dL_law_2334 5 rfl ?_
      refine hs_iconst (v := (0 : Int32)) dL_law_2335 (by decide) ?_
      obtain ⟨r8, h8, h⟩ := hb_bind h
      refine hs_lald dL_law_2336 h8 ?_
      refine hs_iload dL_law_2337 0 rfl ?_
      refine hs_i2l dL_law_2339 ?_
      refine hs_lcmp dL_law_2340 ?_
      refine hs_if_eq (tgt := 2346) dL_law_2341 (by decide) (fun hc9 => ?_) (fun hc9 => ?_)
      · rw [if_pos hc9] at h
        refine hs_sub (lv' := [(0, .retAddr 0), (1, .ref x1), (2, .ref x2), (3, .ref x3), (4, .int x4)]) [2, 3, 4, 5, 6] rfl ?_
        refine hs_weak (rc' := (3 * n)) (rs' := (18 * n)) (by omega) (by omega) ?_
        exact c_L_law_b2346 hl k23 hk23 h
      · rw [if_neg hc9] at h
        refine hs_iconst (v := (0 : Int32)) dL_law_2344 (by decide) ?_
        obtain rfl := Option.some.inj h
        exact hs_ireturn dL_law_2345 rfl (by decide) (fun h => by cases h)
  · rw [if_neg hc6] at h
    refine hs_iconst (v := (0 : Int32)) dL_law_2327 (by decide) ?_
    obtain rfl := Option.some.inj h
    exact hs_ireturn dL_law_2328 rfl (by decide) (fun h => by cases h)
set_option maxHeartbeats 4000000 in
set_option maxRecDepth 20000 in
theorem c_L_law_b2290 {G : hb_G} {l : Launch} (hl : l.stackTraces = false) {n : Nat}  (k23 : Nat → Nat → Nat → Int32 → hb_M → Option (Int32 × hb_M)) (hk23 : ∀ (x1 : Nat) (x2 : Nat) (x3 : Nat) (x4 : Int32) (σ : hb_M) (r : (Int32 × hb_M)), k23 x1 x2 x3 x4 σ = some r → hb_T G l true mL_law 83 (3 * n) (18 * n) 23 [(0, .retAddr 0), (1, .ref x1), (2, .ref x2), (3, .ref x3), (4, .int x4)] [] σ (.inl (some (.int r.1)), r.2))  {x1 : Nat} {x2 : Nat} {x3 : Nat} {x4 : Int32} {σ : hb_M} {r : (Int32 × hb_M)} (h : f_L_law_b2290 G.2.2.2.2.1 G.2.2.2.2.2 k23 x1 x2 x3 x4 σ = some r) : hb_T G l true mL_law 83 (3 * n) (18 * n) 2290 [(0, .retAddr 0), (1, .ref x1), (2, .ref x2), (3, .ref x3), (4, .int x4)] [] σ (.inl (some (.int r.1)), r.2) := by
  unfold f_L_law_b2290 at h
  refine hs_goto (tgt := 2704) dL_law_2290 (by decide) ?_
  refine hs_sub (lv' := [(0, .retAddr 0), (1, .ref x1), (2, .ref x2), (3, .ref x3), (4, .int x4)]) [0, 1, 2, 3, 4] rfl ?_
  refine hs_weak (rc' := (3 * n)) (rs' := (18 * n)) (by omega) (by omega) ?_
  exact c_L_law_b2704 hl k23 hk23 h
