set_option maxHeartbeats 4000000 in
set_option maxRecDepth 20000 in
theorem c_L_law_b23 {G : hb_G} {l : Launch} (hl : l.stackTraces = false) : ∀ (n : Nat) (x1 : Nat) (x2 : Nat) (x3 : Nat) (x4 : Int32) (σ : hb_M) (r : (Int32 × hb_M)), f_L_law_b23 G.2.2.2.2.1 G.2.2.2.2.2 n x1 x2 x3 x4 σ = some r → hb_T G l true mL_law 83 (3 * n) (18 * n) 23 [(0, .retAddr 0), (1, .ref x1), (2, .ref x2), (3, .ref x3), (4, .int x4)] [] σ (.inl (some (.int r.1)), r.2) := by
  intro n
  induction n with
  | zero =>
    intro x1 x2 x3 x4 σ r h
    cases h
  | succ n ih =>
    intro x1 x2 x3 x4 σ r h
    rw [f_L_law_b23] at h
    refine hs_iload dL_law_23 4 rfl ?_
    refine hs_sload_n dL_law_25 0 rfl ?_
    refine hs_slen dL_law_26 ?_
    refine hs_iconst (v := (4 : Int32)) dL_law_27 (by decide) ?_
    refine hs_isub dL_law_28 ?_
    refine hs_icmp_gt (tgt := 2710) dL_law_29 (by decide) (fun hc1 => ?_) (fun hc1 => ?_)
    · rw [if_pos hc1] at h
      refine hs_iconst (v := (1 : Int32)) dL_law_2710 (by decide) ?_
      obtain rfl := Option.some.inj h
      exact hs_ireturn dL_law_2711 rfl (by decide) (fun h => by cases h)
    · rw [if_neg hc1] at h
      refine hs_sload_n dL_law_32 0 rfl ?_
      refine hs_iload dL_law_33 4 rfl ?_
      by_cases hc2 : x4 < 0 ∨ G.2.2.2.2.1 ≤ x4.toNatClampNeg
      · rw [if_pos hc2] at h
        cases h
      rw [if_neg hc2] at h
      refine hs_sld hc2 dL_law_35 ?_
      refine hs_bipush (v := (63 : Int32)) dL_law_36 (by decide) ?_
      refine hs_iand dL_law_38 ?_
      by_cases hc3 : ((G.2.2.2.2.2 x4.toNatClampNeg) &&& (63 : Int32)) = (0 : Int32)
      · rw [if_pos hc3] at h
        refine hs_tblC (tgt := 236) (off := 197) (0 : Int32) dL_law_39 hc3 (by decide) (by decide) (by decide) (by decide) ?_
        refine hs_sub (lv' := [(0, .retAddr 0), (1, .ref x1), (2, .ref x2), (3, .ref x3), (4, .int x4)]) [0, 1, 2, 3, 4] rfl ?_
        refine hs_weak (rc' := (3 * n + 3)) (rs' := (18 * n + 18)) (by omega) (by omega) ?_
        exact c_L_law_b236 hl (f_L_law_b23 G.2.2.2.2.1 G.2.2.2.2.2 n) ih h
      rw [if_neg hc3] at h
      by_cases hc4 : ((G.2.2.2.2.2 x4.toNatClampNeg) &&& (63 : Int32)) = (1 : Int32)
      · rw [if_pos hc4] at h
        refine hs_tblC (tgt := 316) (off := 277) (1 : Int32) dL_law_39 hc4 (by decide) (by decide) (by decide) (by decide) ?_
        refine hs_sub (lv' := [(0, .retAddr 0), (1, .ref x1), (2, .ref x2), (3, .ref x3), (4, .int x4)]) [0, 1, 2, 3, 4] rfl ?_
        refine hs_weak (rc' := (3 * n + 3)) (rs' := (18 * n + 18)) (by omega) (by omega) ?_
        exact c_L_law_b316 hl (f_L_law_b23 G.2.2.2.2.1 G.2.2.2.2.2 n) ih h
      rw [if_neg hc4] at h
      by_cases hc5 : ((G.2.2.2.2.2 x4.toNatClampNeg) &&& (63 : Int32)) = (2 : Int32)
      · rw [if_pos hc5] at h
        refine hs_tblC (tgt := 329) (off := 290) (2 : Int32) dL_law_39 hc5 (by decide) (by decide) (by decide) (by decide) ?_
        refine hs_sub (lv' := [(0, .retAddr 0), (1, .ref x1), (2, .ref x2), (3, .ref x3), (4, .int x4)]) [0, 1, 2, 3, 4] rfl ?_
        refine hs_weak (rc' := (3 * n + 3)) (rs' := (18 * n + 18)) (by omega) (by omega) ?_
        exact c_L_law_b329 hl (f_L_law_b23 G.2.2.2.2.1 G.2.2.2.2.2 n) ih h
      rw [if_neg hc5] at h
      by_cases hc6 : ((G.2.2.2.2.2 x4.toNatClampNeg) &&& (63 : Int32)) = (3 : Int32)
      · rw [if_pos hc6] at h
        refine hs_tblC (tgt := 397) (off := 358) (3 : Int32) dL_law_39 hc6 (by decide) (by decide) (by decide) (by decide) ?_
        refine hs_sub (lv' := [(0, .retAddr 0), (1, .ref x1), (2, .ref x2), (3, .ref x3), (4, .int x4)]) [0, 1, 2, 3, 4] rfl ?_
        refine hs_weak (rc' := (3 * n + 3)) (rs' := (18 * n + 18)) (by omega) (by omega) ?_
        exact c_L_law_b397 hl (f_L_law_b23 G.2.2.2.2.1 G.2.2.2.2.2 n) ih h
      rw [if_neg hc6] at h
      by_cases hc7 : ((G.2.2.2.2.2 x4.toNatClampNeg) &&& (63 : Int32)) = (4 : Int32)
      · rw [if_pos hc7] at h
        refine hs_tblC (tgt := 472) (off := 433) (4 : Int32) dL_law_39 hc7 (by decide) (by decide) (by decide) (by decide) ?_
        refine hs_sub (lv' := [(0, .retAddr 0), (1, .ref x1), (2, .ref x2), (3, .ref x3), (4, .int x4)]) [0, 1, 2, 3, 4] rfl ?_
        refine hs_weak (rc' := (3 * n + 3)) (rs' := (18 * n + 18)) (by omega) (by omega) ?_
        exact c_L_law_b472 hl (f_L_law_b23 G.2.2.2.2.1 G.2.2.2.2.2 n) ih h
      rw [if_neg hc7] at h
      by_cases hc8 : ((G.2.2.2.2.2 x4.toNatClampNeg) &&& (63 : Int32)) = (5 : Int32)
      · rw [if_pos hc8] at h
        refine hs_tblC (tgt := 528) (off := 489) (5 : Int32) dL_law_39 hc8 (by decide) (by decide) (by decide) (by decide) ?_
        refine hs_sub (lv' := [(0, .retAddr 0), (1, .ref x1), (2, .ref x2), (3, .ref x3), (4, .int x4)]) [0, 1, 2, 3, 4] rfl ?_
        refine hs_weak (rc' := (3 * n + 3)) (rs' := (18 * n + 18)) (by omega) (by omega) ?_
        exact c_L_law_b528 hl (f_L_law_b23 G.2.2.2.2.1 G.2.2.2.2.2 n) ih h
      rw [if_neg hc8] at h
      by_cases hc9 : ((G.2.2.2.2.2 x4.toNatClampNeg) &&& (63 : Int32)) = (6 : Int32)
      · rw [if_pos hc9] at h
        refine hs_tblC (tgt := 584) (off := 545) (6 : Int32) dL_law_39 hc9 (by decide) (by decide) (by decide) (by decide) ?_
        refine hs_sub (lv' := [(0, .retAddr 0), (1, .ref x1), (2, .ref x2), (3, .ref x3), (4, .int x4)]) [0, 1, 2, 3, 4] rfl ?_
        refine hs_weak (rc' := (3 * n + 3)) (rs' := (18 * n + 18)) (by omega) (by omega) ?_
        exact c_L_law_b584 hl (f_L_law_b23 G.2.2.2.2.1 G.2.2.2.2.2 n) ih h
      rw [if_neg hc9] at h
      by_cases hc10 : ((G.2.2.2.2.2 x4.toNatClampNeg) &&& (63 : Int32)) = (7 : Int32)
      · rw [if_pos hc10] at h
        refine hs_tblC (tgt := 628) (off := 589) (7 : Int32) dL_law_39 hc10 (by decide) (by decide) (by decide) (by decide) ?_
        refine hs_sub (lv' := [(0, .retAddr 0), (1, .ref x1), (2, .ref x2), (3, .ref x3), (4, .int x4)]) [0, 1, 2, 3, 4] rfl ?_
        refine hs_weak (rc' := (3 * n + 3)) (rs' := (18 * n + 18)) (by omega) (by omega) ?_
        exact c_L_law_b628 hl (f_L_law_b23 G.2.2.2.2.1 G.2.2.2.2.2 n) ih h
      rw [if_neg hc10] at h
      by_cases hc11 : ((G.2.2.2.2.2 x4.toNatClampNeg) &&& (63 : Int32)) = (8 : Int32)
      · rw [if_pos hc11] at h
        refine hs_tblC (tgt := 708) (off := 669) (8 : Int32) dL_law_39 hc11 (by decide) (by decide) (by decide) (by decide) ?_
        refine hs_sub (lv' := [(0, .retAddr 0), (1, .ref x1), (2, .ref x2), (3, .ref x3), (4, .int x4)]) [0, 1, 2, 3, 4] rfl ?_
        refine hs_weak (rc' := (3 * n + 3)) (rs' := (18 * n + 18)) (by omega) (by omega) ?_
        exact c_L_law_b708 hl (f_L_law_b23 G.2.2.2.2.1 G.2.2.2.2.2 n) ih h
      rw [if_neg hc11] at h
      by_cases hc12 : ((G.2.2.2.2.2 x4.toNatClampNeg) &&& (63 : Int32)) = (9 : Int32)
      · rw [if_pos hc12] at h
        refine hs_tblC (tgt := 776) (off := 737) (9 : Int32) dL_law_39 hc12 (by decide) (by decide) (by decide) (by decide) ?_
        refine hs_sub (lv' := [(0, .retAddr 0), (1, .ref x1), (2, .ref x2), (3, .ref x3), (4, .int x4)]) [0, 1, 2, 3, 4] rfl ?_
        refine hs_weak (rc' := (3 * n + 3)) (rs' := (18 * n + 18)) (by omega) (by omega) ?_
        exact c_L_law_b776 hl (f_L_law_b23 G.2.2.2.2.1 G.2.2.2.2.2 n) ih h
      rw [if_neg hc12] at h
      by_cases hc13 : ((G.2.2.2.2.2 x4.toNatClampNeg) &&& (63 : Int32)) = (10 : Int32)
      · rw [if_pos hc13] at h
        refine hs_tblC (tgt := 844) (off := 805) (10 : Int32) dL_law_39 hc13 (by decide) (by decide) (by decide) (by decide) ?_
        refine hs_sub (lv' := [(0, .retAddr 0), (1, .ref x1), (2, .ref x2), (3, .ref x3), (4, .int x4)]) [0, 1, 2, 3, 4] rfl ?_
        refine hs_weak (rc' := (3 * n + 3)) (rs' := (18 * n + 18)) (by omega) (by omega) ?_
        exact c_L_law_b844 hl (f_L_law_b23 G.2.2.2.2.1 G.2.2.2.2.2 n) ih h
      rw [if_neg hc13] at h
      by_cases hc14 : ((G.2.2.2.2.2 x4.toNatClampNeg) &&& (63 : Int32)) = (11 : Int32)
      · rw [if_pos hc14] at h
        refine hs_tblC (tgt := 900) (off := 861) (11 : Int32) dL_law_39 hc14 (by decide) (by decide) (by decide) (by decide) ?_
        refine hs_sub (lv' := [(0, .retAddr 0), (1, .ref x1), (2, .ref x2), (3, .ref x3), (4, .int x4)]) [0, 1, 2, 3, 4] rfl ?_
        refine hs_weak (rc' := (3 * n + 3)) (rs' := (18 * n + 18)) (by omega) (by omega) ?_
        exact c_L_law_b900 hl (f_L_law_b23 G.2.2.2.2.1 G.2.2.2.2.2 n) ih h
      rw [if_neg hc14] at h
      by_cases hc15 : ((G.2.2.2.2.2 x4.toNatClampNeg) &&& (63 : Int32)) = (12 : Int32)
      · rw [if_pos hc15] at h
        refine hs_tblC (tgt := 968) (off := 929) (12 : Int32) dL_law_39 hc15 (by decide) (by decide) (by decide) (by decide) ?_
        refine hs_sub (lv' := [(0, .retAddr 0), (1, .ref x1), (2, .ref x2), (3, .ref x3), (4, .int x4)]) [0, 1, 2, 3, 4] rfl ?_
        refine hs_weak (rc' := (3 * n + 3)) (rs' := (18 * n + 18)) (by omega) (by omega) ?_
        exact c_L_law_b968 hl (f_L_law_b23 G.2.2.2.2.1 G.2.2.2.2.2 n) ih h
      rw [if_neg hc15] at h
      by_cases hc16 : ((G.2.2.2.2.2 x4.toNatClampNeg) &&& (63 : Int32)) = (13 : Int32)
      · rw [if_pos hc16] at h
        refine hs_tblC (tgt := 1036) (off := 997) (13 : Int32) dL_law_39 hc16 (by decide) (by decide) (by decide) (by decide) ?_
        refine hs_sub (lv' := [(0, .retAddr 0), (1, .ref x1), (2, .ref x2), (3, .ref x3), (4, .int x4)]) [0, 1, 2, 3, 4] rfl ?_
        refine hs_weak (rc' := (3 * n + 3)) (rs' := (18 * n + 18)) (by omega) (by omega) ?_
        exact c_L_law_b1036 hl (f_L_law_b23 G.2.2.2.2.1 G.2.2.2.2.2 n) ih h
      rw [if_neg hc16] at h
      by_cases hc17 : ((G.2.2.2.2.2 x4.toNatClampNeg) &&& (63 : Int32)) = (14 : Int32)
      · rw [if_pos hc17] at h
        refine hs_tblC (tgt := 1049) (off := 1010) (14 : Int32) dL_law_39 hc17 (by decide) (by decide) (by decide) (by decide) ?_
        refine hs_sub (lv' := [(0, .retAddr 0), (1, .ref x1), (2, .ref x2), (3, .ref x3), (4, .int x4)]) [0, 1, 2, 3, 4] rfl ?_
        refine hs_weak (rc' := (3 * n + 3)) (rs' := (18 * n + 18)) (by omega) (by omega) ?_
        exact c_L_law_b1049 hl (f_L_law_b23 G.2.2.2.2.1 G.2.2.2.2.2 n) ih h
      rw [if_neg hc17] at h
      by_cases hc18 : ((G.2.2.2.2.2 x4.toNatClampNeg) &&& (63 : Int32)) = (15 : Int32)
      · rw [if_pos hc18] at h
        refine hs_tblC (tgt := 1062) (off := 1023) (15 : Int32) dL_law_39 hc18 (by decide) (by decide) (by decide) (by decide) ?_
        refine hs_sub (lv' := [(0, .retAddr 0), (1, .ref x1), (2, .ref x2), (3, .ref x3), (4, .int x4)]) [0, 1, 2, 3, 4] rfl ?_
        refine hs_weak (rc' := (3 * n + 3)) (rs' := (18 * n + 18)) (by omega) (by omega) ?_
        exact c_L_law_b1062 hl (f_L_law_b23 G.2.2.2.2.1 G.2.2.2.2.2 n) ih h
      rw [if_neg hc18] at h
      by_cases hc19 : ((G.2.2.2.2.2 x4.toNatClampNeg) &&& (63 : Int32)) = (16 : Int32)
      · rw [if_pos hc19] at h
        refine hs_tblC (tgt := 1087) (off := 1048) (16 : Int32) dL_law_39 hc19 (by decide) (by decide) (by decide) (by decide) ?_
        refine hs_sub (lv' := [(0, .retAddr 0), (1, .ref x1), (2, .ref x2), (3, .ref x3), (4, .int x4)]) [0, 1, 2, 3, 4] rfl ?_
        refine hs_weak (rc' := (3 * n + 3)) (rs' := (18 * n + 18)) (by omega) (by omega) ?_
        exact c_L_law_b1087 hl (f_L_law_b23 G.2.2.2.2.1 G.2.2.2.2.2 n) ih h
      rw [if_neg hc19] at h
      by_cases hc20 : ((G.2.2.2.2.2 x4.toNatClampNeg) &&& (63 : Int32)) = (17 : Int32)
      · rw [if_pos hc20] at h
        refine hs_tblC (tgt := 1155) (off := 1116) (17 : Int32) dL_law_39 hc20 (by decide) (by decide) (by decide) (by decide) ?_
        refine hs_sub (lv' := [(0, .retAddr 0), (1, .ref x1), (2, .ref x2), (3, .ref x3), (4, .int x4)]) [0, 1, 2, 3, 4] rfl ?_
        refine hs_weak (rc' := (3 * n + 3)) (rs' := (18 * n + 18)) (by omega) (by omega) ?_
        exact c_L_law_b1155 hl (f_L_law_b23 G.2.2.2.2.1 G.2.2.2.2.2 n) ih h
      rw [if_neg hc20] at h
      by_cases hc21 : ((G.2.2.2.2.2 x4.toNatClampNeg) &&& (63 : Int32)) = (18 : Int32)
      · rw [if_pos hc21] at h
        refine hs_tblC (tgt := 1223) (off := 1184) (18 : Int32) dL_law_39 hc21 (by decide) (by decide) (by decide) (by decide) ?_
        refine hs_sub (lv' := [(0, .retAddr 0), (1, .ref x1), (2, .ref x2), (3, .ref x3), (4, .int x4)]) [0, 1, 2, 3, 4] rfl ?_
        refine hs_weak (rc' := (3 * n + 3)) (rs' := (18 * n + 18)) (by omega) (by omega) ?_
        exact c_L_law_b1223 hl (f_L_law_b23 G.2.2.2.2.1 G.2.2.2.2.2 n) ih h
      rw [if_neg hc21] at h
      by_cases hc22 : ((G.2.2.2.2.2 x4.toNatClampNeg) &&& (63 : Int32)) = (19 : Int32)
      · rw [if_pos hc22] at h
        refine hs_tblC (tgt := 1279) (off := 1240) (19 : Int32) dL_law_39 hc22 (by decide) (by decide) (by decide) (by decide) ?_
        refine hs_sub (lv' := [(0, .retAddr 0), (1, .ref x1), (2, .ref x2), (3, .ref x3), (4, .int x4)]) [0, 1, 2, 3, 4] rfl ?_
        refine hs_weak (rc' := (3 * n + 3)) (rs' := (18 * n + 18)) (by omega) (by omega) ?_
        exact c_L_law_b1279 hl (f_L_law_b23 G.2.2.2.2.1 G.2.2.2.2.2 n) ih h
      rw [if_neg hc22] at h
      by_cases hc23 : ((G.2.2.2.2.2 x4.toNatClampNeg) &&& (63 : Int32)) = (20 : Int32)
      · rw [if_pos hc23] at h
        refine hs_tblC (tgt := 1347) (off := 1308) (20 : Int32) dL_law_39 hc23 (by decide) (by decide) (by decide) (by decide) ?_
        refine hs_sub (lv' := [(0, .retAddr 0), (1, .ref x1), (2, .ref x2), (3, .ref x3), (4, .int x4)]) [0, 1, 2, 3, 4] rfl ?_
        refine hs_weak (rc' := (3 * n + 3)) (rs' := (18 * n + 18)) (by omega) (by omega) ?_
        exact c_L_law_b1347 hl (f_L_law_b23 G.2.2.2.2.1 G.2.2.2.2.2 n) ih h
      rw [if_neg hc23] at h
      by_cases hc24 : ((G.2.2.2.2.2 x4.toNatClampNeg) &&& (63 : Int32)) = (21 : Int32)
      · rw [if_pos hc24] at h
        refine hs_tblC (tgt := 1422) (off := 1383) (21 : Int32) dL_law_39 hc24 (by decide) (by decide) (by decide) (by decide) ?_
        refine hs_sub (lv' := [(0, .retAddr 0), (1, .ref x1), (2, .ref x2), (3, .ref x3), (4, .int x4)]) [0, 1, 2, 3, 4] rfl ?_
        refine hs_weak (rc' := (3 * n + 3)) (rs' := (18 * n + 18)) (by omega) (by omega) ?_
        exact c_L_law_b1422 hl (f_L_law_b23 G.2.2.2.2.1 G.2.2.2.2.2 n) ih h
      rw [if_neg hc24] at h
      by_cases hc25 : ((G.2.2.2.2.2 x4.toNatClampNeg) &&& (63 : Int32)) = (22 : Int32)
      · rw [if_pos hc25] at h
        refine hs_tblC (tgt := 1478) (off := 1439) (22 : Int32) dL_law_39 hc25 (by decide) (by decide) (by decide) (by decide) ?_
        refine hs_sub (lv' := [(0, .retAddr 0), (1, .ref x1), (2, .ref x2), (3, .ref x3), (4, .int x4)]) [0, 1, 2, 3, 4] rfl ?_
        refine hs_weak (rc' := (3 * n + 3)) (rs' := (18 * n + 18)) (by omega) (by omega) ?_
        exact c_L_law_b1478 hl (f_L_law_b23 G.2.2.2.2.1 G.2.2.2.2.2 n) ih h
      rw [if_neg hc25] at h
      by_cases hc26 : ((G.2.2.2.2.2 x4.toNatClampNeg) &&& (63 : Int32)) = (23 : Int32)
      · rw [if_pos hc26] at h
        refine hs_tblC (tgt := 1534) (off := 1495) (23 : Int32) dL_law_39 hc26 (by decide) (by decide) (by decide) (by decide) ?_
        refine hs_sub (lv' := [(0, .retAddr 0), (1, .ref x1), (2, .ref x2), (3, .ref x3), (4, .int x4)]) [0, 1, 2, 3, 4] rfl ?_
        refine hs_weak (rc' := (3 * n + 3)) (rs' := (18 * n + 18)) (by omega) (by omega) ?_
        exact c_L_law_b1534 hl (f_L_law_b23 G.2.2.2.2.1 G.2.2.2.2.2 n) ih h
      rw [if_neg hc26] at h
      by_cases hc27 : ((G.2.2.2.2.2 x4.toNatClampNeg) &&& (63 : Int32)) = (24 : Int32)
      · rw [if_pos hc27] at h
        refine hs_tblC (tgt := 1602) (off := 1563) (24 : Int32) dL_law_39 hc27 (by decide) (by decide) (by decide) (by decide) ?_
        refine hs_sub (lv' := [(0, .retAddr 0), (1, .ref x1), (2, .ref x2), (3, .ref x3), (4, .int x4)]) [0, 1, 2, 3, 4] rfl ?_
        refine hs_weak (rc' := (3 * n + 3)) (rs' := (18 * n + 18)) (by omega) (by omega) ?_
        exact c_L_law_b1602 hl (f_L_law_b23 G.2.2.2.2.1 G.2.2.2.2.2 n) ih h
      rw [if_neg hc27] at h
      by_cases hc28 : ((G.2.2.2.2.2 x4.toNatClampNeg) &&& (63 : Int32)) = (25 : Int32)
      · rw [if_pos hc28] at h
        refine hs_tblC (tgt := 1658) (off := 1619) (25 : Int32) dL_law_39 hc28 (by decide) (by decide) (by decide) (by decide) ?_
        refine hs_sub (lv' := [(0, .retAddr 0), (1, .ref x1), (2, .ref x2), (3, .ref x3), (4, .int x4)]) [0, 1, 2, 3, 4] rfl ?_
        refine hs_weak (rc' := (3 * n + 3)) (rs' := (18 * n + 18)) (by omega) (by omega) ?_
        exact c_L_law_b1658 hl (f_L_law_b23 G.2.2.2.2.1 G.2.2.2.2.2 n) ih h
      rw [if_neg hc28] at h
      by_cases hc29 : ((G.2.2.2.2.2 x4.toNatClampNeg) &&& (63 : Int32)) = (26 : Int32)
      · rw [if_pos hc29] at h
        refine hs_tblC (tgt := 1714) (off := 1675) (26 : Int32) dL_law_39 hc29 (by decide) (by decide) (by decide) (by decide) ?_
        refine hs_sub (lv' := [(0, .retAddr 0), (1, .ref x1), (2, .ref x2), (3, .ref x3), (4, .int x4)]) [0, 1, 2, 3, 4] rfl ?_
        refine hs_weak (rc' := (3 * n + 3)) (rs' := (18 * n + 18)) (by omega) (by omega) ?_
        exact c_L_law_b1714 hl (f_L_law_b23 G.2.2.2.2.1 G.2.2.2.2.2 n) ih h
      rw [if_neg hc29] at h
      by_cases hc30 : ((G.2.2.2.2.2 x4.toNatClampNeg) &&& (63 : Int32)) = (27 : Int32)
      · rw [if_pos hc30] at h
        refine hs_tblC (tgt := 1770) (off := 1731) (27 : Int32) dL_law_39 hc30 (by decide) (by decide) (by decide) (by decide) ?_
        refine hs_sub (lv' := [(0, .retAddr 0), (1, .ref x1), (2, .ref x2), (3, .ref x3), (4, .int x4)]) [0, 1, 2, 3, 4] rfl ?_
        refine hs_weak (rc' := (3 * n + 3)) (rs' := (18 * n + 18)) (by omega) (by omega) ?_
        exact c_L_law_b1770 hl (f_L_law_b23 G.2.2.2.2.1 G.2.2.2.2.2 n) ih h
      rw [if_neg hc30] at h
      by_cases hc31 : ((G.2.2.2.2.2 x4.toNatClampNeg) &&& (63 : Int32)) = (28 : Int32)
      · rw [if_pos hc31] at h
        refine hs_tblC (tgt := 1826) (off := 1787) (28 : Int32) dL_law_39 hc31 (by decide) (by decide) (by decide) (by decide) ?_
        refine hs_sub (lv' := [(0, .retAddr 0), (1, .ref x1), (2, .ref x2), (3, .ref x3), (4, .int x4)]) [0, 1, 2, 3, 4] rfl ?_
        refine hs_weak (rc' := (3 * n + 3)) (rs' := (18 * n + 18)) (by omega) (by omega) ?_
        exact c_L_law_b1826 hl (f_L_law_b23 G.2.2.2.2.1 G.2.2.2.2.2 n) ih h
      rw [if_neg hc31] at h
      by_cases hc32 : ((G.2.2.2.2.2 x4.toNatClampNeg) &&& (63 : Int32)) = (29 : Int32)
      · rw [if_pos hc32] at h
        refine hs_tblC (tgt := 1894) (off := 1855) (29 : Int32) dL_law_39 hc32 (by decide) (by decide) (by decide) (by decide) ?_
        refine hs_sub (lv' := [(0, .retAddr 0), (1, .ref x1), (2, .ref x2), (3, .ref x3), (4, .int x4)]) [0, 1, 2, 3, 4] rfl ?_
        refine hs_weak (rc' := (3 * n + 3)) (rs' := (18 * n + 18)) (by omega) (by omega) ?_
        exact c_L_law_b1894 hl (f_L_law_b23 G.2.2.2.2.1 G.2.2.2.2.2 n) ih h
      rw [if_neg hc32] at h
      by_cases hc33 : ((G.2.2.2.2.2 x4.toNatClampNeg) &&& (63 : Int32)) = (30 : Int32)
      · rw [if_pos hc33] at h
        refine hs_tblC (tgt := 1950) (off := 1911) (30 : Int32) dL_law_39 hc33 (by decide) (by decide) (by decide) (by decide) ?_
        refine hs_sub (lv' := [(0, .retAddr 0), (1, .ref x1), (2, .ref x2), (3, .ref x3), (4, .int x4)]) [0, 1, 2, 3, 4] rfl ?_
        refine hs_weak (rc' := (3 * n + 3)) (rs' := (18 * n + 18)) (by omega) (by omega) ?_
        exact c_L_law_b1950 hl (f_L_law_b23 G.2.2.2.2.1 G.2.2.2.2.2 n) ih h
      rw [if_neg hc33] at h
      by_cases hc34 : ((G.2.2.2.2.2 x4.toNatClampNeg) &&& (63 : Int32)) = (31 : Int32)
      · rw [if_pos hc34] at h
        refine hs_tblC (tgt := 2046) (off := 2007) (31 : Int32) dL_law_39 hc34 (by decide) (by decide) (by decide) (by decide) ?_
        refine hs_sub (lv' := [(0, .retAddr 0), (1, .ref x1), (2, .ref x2), (3, .ref x3), (4, .int x4)]) [0, 1, 2, 3, 4] rfl ?_
        refine hs_weak (rc' := (3 * n + 3)) (rs' := (18 * n + 18)) (by omega) (by omega) ?_
        exact c_L_law_b2046 hl (f_L_law_b23 G.2.2.2.2.1 G.2.2.2.2.2 n) ih h
      rw [if_neg hc34] at h
      by_cases hc35 : ((G.2.2.2.2.2 x4.toNatClampNeg) &&& (63 : Int32)) = (32 : Int32)
      · rw [if_pos hc35] at h
        refine hs_tblC (tgt := 2101) (off := 2062) (32 : Int32) dL_law_39 hc35 (by decide) (by decide) (by decide) (by decide) ?_
        refine hs_sub (lv' := [(0, .retAddr 0), (1, .ref x1), (2, .ref x2), (3, .ref x3), (4, .int x4)]) [0, 1, 2, 3, 4] rfl ?_
        refine hs_weak (rc' := (3 * n + 3)) (rs' := (18 * n + 18)) (by omega) (by omega) ?_
        exact c_L_law_b2101 hl (f_L_law_b23 G.2.2.2.2.1 G.2.2.2.2.2 n) ih h
      rw [if_neg hc35] at h
      by_cases hc36 : ((G.2.2.2.2.2 x4.toNatClampNeg) &&& (63 : Int32)) = (33 : Int32)
      · rw [if_pos hc36] at h
        refine hs_tblC (tgt := 2157) (off := 2118) (33 : Int32) dL_law_39 hc36 (by decide) (by decide) (by decide) (by decide) ?_
        refine hs_sub (lv' := [(0, .retAddr 0), (1, .ref x1), (2, .ref x2), (3, .ref x3), (4, .int x4)]) [0, 1, 2, 3, 4] rfl ?_
        refine hs_weak (rc' := (3 * n + 3)) (rs' := (18 * n + 18)) (by omega) (by omega) ?_
        exact c_L_law_b2157 hl (f_L_law_b23 G.2.2.2.2.1 G.2.2.2.2.2 n) ih h
      rw [if_neg hc36] at h
      by_cases hc37 : ((G.2.2.2.2.2 x4.toNatClampNeg) &&& (63 : Int32)) = (34 : Int32)
      · rw [if_pos hc37] at h
        refine hs_tblC (tgt := 2225) (off := 2186) (34 : Int32) dL_law_39 hc37 (by decide) (by decide) (by decide) (by decide) ?_
        refine hs_sub (lv' := [(0, .retAddr 0), (1, .ref x1), (2, .ref x2), (3, .ref x3), (4, .int x4)]) [0, 1, 2, 3, 4] rfl ?_
        refine hs_weak (rc' := (3 * n + 3)) (rs' := (18 * n + 18)) (by omega) (by omega) ?_
        exact c_L_law_b2225 hl (f_L_law_b23 G.2.2.2.2.1 G.2.2.2.2.2 n) ih h
      rw [if_neg hc37] at h
      by_cases hc38 : ((G.2.2.2.2.2 x4.toNatClampNeg) &&& (63 : Int32)) = (35 : Int32)
      · rw [if_pos hc38] at h
        refine hs_tblC (tgt := 2293) (off := 2254) (35 : Int32) dL_law_39 hc38 (by decide) (by decide) (by decide) (by decide) ?_
        refine hs_sub (lv' := [(0, .retAddr 0), (1, .ref x1), (2, .ref x2), (3, .ref x3), (4, .int x4)]) [0, 1, 2, 3, 4] rfl ?_
        refine hs_weak (rc' := (3 * n + 3)) (rs' := (18 * n + 18)) (by omega) (by omega) ?_
        exact c_L_law_b2293 hl (f_L_law_b23 G.2.2.2.2.1 G.2.2.2.2.2 n) ih h
      rw [if_neg hc38] at h
      by_cases hc39 : ((G.2.2.2.2.2 x4.toNatClampNeg) &&& (63 : Int32)) = (36 : Int32)
      · rw [if_pos hc39] at h
        refine hs_tblC (tgt := 2349) (off := 2310) (36 : Int32) dL_law_39 hc39 (by decide) (by decide) (by decide) (by decide) ?_
        refine hs_sub (lv' := [(0, .retAddr 0), (1, .ref x1), (2, .ref x2), (3, .ref x3), (4, .int x4)]) [0, 1, 2, 3, 4] rfl ?_
        refine hs_weak (rc' := (3 * n + 3)) (rs' := (18 * n + 18)) (by omega) (by omega) ?_
        exact c_L_law_b2349 hl (f_L_law_b23 G.2.2.2.2.1 G.2.2.2.2.2 n) ih h
      rw [if_neg hc39] at h
      by_cases hc40 : ((G.2.2.2.2.2 x4.toNatClampNeg) &&& (63 : Int32)) = (37 : Int32)
      · rw [if_pos hc40] at h
        refine hs_tblC (tgt := 2362) (off := 2323) (37 : Int32) dL_law_39 hc40 (by decide) (by decide) (by decide) (by decide) ?_
        refine hs_sub (lv' := [(0, .retAddr 0), (1, .ref x1), (2, .ref x2), (3, .ref x3), (4, .int x4)]) [0, 1, 2, 3, 4] rfl ?_
        refine hs_weak (rc' := (3 * n + 3)) (rs' := (18 * n + 18)) (by omega) (by omega) ?_
        exact c_L_law_b2362 hl (f_L_law_b23 G.2.2.2.2.1 G.2.2.2.2.2 n) ih h
      rw [if_neg hc40] at h
      by_cases hc41 : ((G.2.2.2.2.2 x4.toNatClampNeg) &&& (63 : Int32)) = (38 : Int32)
      · rw [if_pos hc41] at h
        refine hs_tblC (tgt := 2375) (off := 2336) (38 : Int32) dL_law_39 hc41 (by decide) (by decide) (by decide) (by decide) ?_
        refine hs_sub (lv' := [(0, .retAddr 0), (1, .ref x1), (2, .ref x2), (3, .ref x3), (4, .int x4)]) [0, 1, 2, 3, 4] rfl ?_
        refine hs_weak (rc' := (3 * n + 3)) (rs' := (18 * n + 18)) (by omega) (by omega) ?_
        exact c_L_law_b2375 hl (f_L_law_b23 G.2.2.2.2.1 G.2.2.2.2.2 n) ih h
      rw [if_neg hc41] at h
      by_cases hc42 : ((G.2.2.2.2.2 x4.toNatClampNeg) &&& (63 : Int32)) = (39 : Int32)
      · rw [if_pos hc42] at h
        refine hs_tblC (tgt := 2400) (off := 2361) (39 : Int32) dL_law_39 hc42 (by decide) (by decide) (by decide) (by decide) ?_
        refine hs_sub (lv' := [(0, .retAddr 0), (1, .ref x1), (2, .ref x2), (3, .ref x3), (4, .int x4)]) [0, 1, 2, 3, 4] rfl ?_
        refine hs_weak (rc' := (3 * n + 3)) (rs' := (18 * n + 18)) (by omega) (by omega) ?_
        exact c_L_law_b2400 hl (f_L_law_b23 G.2.2.2.2.1 G.2.2.2.2.2 n) ih h
      rw [if_neg hc42] at h
      by_cases hc43 : ((G.2.2.2.2.2 x4.toNatClampNeg) &&& (63 : Int32)) = (40 : Int32)
      · rw [if_pos hc43] at h
        refine hs_tblC (tgt := 2441) (off := 2402) (40 : Int32) dL_law_39 hc43 (by decide) (by decide) (by decide) (by decide) ?_
        refine hs_sub (lv' := [(0, .retAddr 0), (1, .ref x1), (2, .ref x2), (3, .ref x3), (4, .int x4)]) [0, 1, 2, 3, 4] rfl ?_
        refine hs_weak (rc' := (3 * n + 3)) (rs' := (18 * n + 18)) (by omega) (by omega) ?_
        exact c_L_law_b2441 hl (f_L_law_b23 G.2.2.2.2.1 G.2.2.2.2.2 n) ih h
      rw [if_neg hc43] at h
      by_cases hc44 : ((G.2.2.2.2.2 x4.toNatClampNeg) &&& (63 : Int32)) = (41 : Int32)
      · rw [if_pos hc44] at h
        refine hs_tblC (tgt := 2454) (off := 2415) (41 : Int32) dL_law_39 hc44 (by decide) (by decide) (by decide) (by decide) ?_
        refine hs_sub (lv' := [(0, .retAddr 0), (1, .ref x1), (2, .ref x2), (3, .ref x3), (4, .int x4)]) [0, 1, 2, 3, 4] rfl ?_
        refine hs_weak (rc' := (3 * n + 3)) (rs' := (18 * n + 18)) (by omega) (by omega) ?_
        exact c_L_law_b2454 hl (f_L_law_b23 G.2.2.2.2.1 G.2.2.2.2.2 n) ih h
      rw [if_neg hc44] at h
      by_cases hc45 : ((G.2.2.2.2.2 x4.toNatClampNeg) &&& (63 : Int32)) = (42 : Int32)
      · rw [if_pos hc45] at h
        refine hs_tblC (tgt := 2510) (off := 2471) (42 : Int32) dL_law_39 hc45 (by decide) (by decide) (by decide) (by decide) ?_
        refine hs_sub (lv' := [(0, .retAddr 0), (1, .ref x1), (2, .ref x2), (3, .ref x3), (4, .int x4)]) [0, 1, 2, 3, 4] rfl ?_
        refine hs_weak (rc' := (3 * n + 3)) (rs' := (18 * n + 18)) (by omega) (by omega) ?_
        exact c_L_law_b2510 hl (f_L_law_b23 G.2.2.2.2.1 G.2.2.2.2.2 n) ih h
      rw [if_neg hc45] at h
      by_cases hc46 : ((G.2.2.2.2.2 x4.toNatClampNeg) &&& (63 : Int32)) = (43 : Int32)
      · rw [if_pos hc46] at h
        refine hs_tblC (tgt := 2578) (off := 2539) (43 : Int32) dL_law_39 hc46 (by decide) (by decide) (by decide) (by decide) ?_
        refine hs_sub (lv' := [(0, .retAddr 0), (1, .ref x1), (2, .ref x2), (3, .ref x3), (4, .int x4)]) [0, 1, 2, 3, 4] rfl ?_
        refine hs_weak (rc' := (3 * n + 3)) (rs' := (18 * n + 18)) (by omega) (by omega) ?_
        exact c_L_law_b2578 hl (f_L_law_b23 G.2.2.2.2.1 G.2.2.2.2.2 n) ih h
      rw [if_neg hc46] at h
      by_cases hc47 : ((G.2.2.2.2.2 x4.toNatClampNeg) &&& (63 : Int32)) = (44 : Int32)
      · rw [if_pos hc47] at h
        refine hs_tblC (tgt := 2646) (off := 2607) (44 : Int32) dL_law_39 hc47 (by decide) (by decide) (by decide) (by decide) ?_
        refine hs_sub (lv' := [(0, .retAddr 0), (1, .ref x1), (2, .ref x2), (3, .ref x3), (4, .int x4)]) [0, 1, 2, 3, 4] rfl ?_
        refine hs_weak (rc' := (3 * n + 3)) (rs' := (18 * n + 18)) (by omega) (by omega) ?_
        exact c_L_law_b2646 hl (f_L_law_b23 G.2.2.2.2.1 G.2.2.2.2.2 n) ih h
      rw [if_neg hc47] at h
      by_cases hc48 : ((G.2.2.2.2.2 x4.toNatClampNeg) &&& (63 : Int32)) = (45 : Int32)
      · rw [if_pos hc48] at h
        refine hs_tblC (tgt := 2690) (off := 2651) (45 : Int32) dL_law_39 hc48 (by decide) (by decide) (by decide) (by decide) ?_
        refine hs_sub (lv' := [(0, .retAddr 0), (1, .ref x1), (2, .ref x2), (3, .ref x3), (4, .int x4)]) [0, 1, 2, 3, 4] rfl ?_
        refine hs_weak (rc' := (3 * n + 3)) (rs' := (18 * n + 18)) (by omega) (by omega) ?_
        exact c_L_law_b2690 hl (f_L_law_b23 G.2.2.2.2.1 G.2.2.2.2.2 n) ih h
      rw [if_neg hc48] at h
      refine hs_tblD (tgt := 2704) [(0 : Int32), (1 : Int32), (2 : Int32), (3 : Int32), (4 : Int32), (5 : Int32), (6 : Int32), (7 : Int32), (8 : Int32), (9 : Int32), (10 : Int32), (11 : Int32), (12 : Int32), (13 : Int32), (14 : Int32), (15 : Int32), (16 : Int32), (17 : Int32), (18 : Int32), (19 : Int32), (20 : Int32), (21 : Int32), (22 : Int32), (23 : Int32), (24 : Int32), (25 : Int32), (26 : Int32), (27 : Int32), (28 : Int32), (29 : Int32), (30 : Int32), (31 : Int32), (32 : Int32), (33 : Int32), (34 : Int32), (35 : Int32), (36 : Int32), (37 : Int32), (38 : Int32), (39 : Int32), (40 : Int32), (41 : Int32), (42 : Int32), (43 : Int32), (44 : Int32), (45 : Int32)] dL_law_39 (by simp only [List.mem_cons, List.not_mem_nil, or_false, forall_eq_or_imp, forall_eq]; exact ⟨hc3, hc4, hc5, hc6, hc7, hc8, hc9, hc10, hc11, hc12, hc13, hc14, hc15, hc16, hc17, hc18, hc19, hc20, hc21, hc22, hc23, hc24, hc25, hc26, hc27, hc28, hc29, hc30, hc31, hc32, hc33, hc34, hc35, hc36, hc37, hc38, hc39, hc40, hc41, hc42, hc43, hc44, hc45, hc46, hc47, hc48⟩) (by decide) (by decide) (by decide) ?_
      refine hs_sub (lv' := [(0, .retAddr 0), (1, .ref x1), (2, .ref x2), (3, .ref x3), (4, .int x4)]) [0, 1, 2, 3, 4] rfl ?_
      refine hs_weak (rc' := (3 * n)) (rs' := (18 * n)) (by omega) (by omega) ?_
      exact c_L_law_b2704 hl (f_L_law_b23 G.2.2.2.2.1 G.2.2.2.2.2 n) ih h
set_option maxHeartbeats 4000000 in
set_option maxRecDepth 20000 in
theorem c_L_law {G : hb_G} {l : Launch} (hl : l.stackTraces = false) {σ : hb_M} {r : (Int32 × hb_M)} (h : f_L_law G.2.2.2.2.1 G.2.2.2.2.2 σ = some r) : hb_T G l false mL_law 83 601024 7293034 0 [(0, .retAddr 0)] [] σ (.inl (some (.int r.1)), r.2) := by
  unfold f_L_law at h
  obtain ⟨r1, h1, h⟩ := hb_bind h
  refine hs_newO (rc := 601023) (rs := 7293025) (N := 9) (ci := 8) (C := RX8) (T := TX8) dL_law_0 rfl (by decide +kernel) wd_29 wd_30 wd_1 h1 ?_
  refine hs_dup dL_law_3 rfl ?_
  obtain ⟨r2, h2, h⟩ := hb_bind h
  refine hs_callIv (mc := 129) (ms := 6818) (rc := 600894) (rs := 7286207) (y9 := yX8_init) (cc9 := cX8_init) (nL9 := 2) (As := []) (rest := [.ref r1.1]) dL_law_4 (Or.inl lmL_130) okX8_init rfl (by decide) rfl (Nat.le_of_ble_eq_true rfl) (c_X8_init h2) ?_
  refine hs_astore_n (lv' := [(1, .ref r1.1), (0, .retAddr 0)]) dL_law_7 (by decide) rfl ?_
  obtain ⟨r3, h3, h⟩ := hb_bind h
  refine hs_newO (rc := 600893) (rs := 7286178) (N := 29) (ci := 9) (C := RX9) (T := TX9) dL_law_8 rfl (by decide +kernel) wd_1318 wd_1319 wd_11 h3 ?_
  refine hs_dup dL_law_11 rfl ?_
  obtain ⟨r4, h4, h⟩ := hb_bind h
  refine hs_callIv (mc := 17) (ms := 6069) (rc := 600876) (rs := 7280109) (y9 := yX9_init) (cc9 := cX9_init) (nL9 := 1) (As := []) (rest := [.ref r3.1]) dL_law_12 (Or.inl lmL_133) okX9_init rfl (by decide) rfl (Nat.le_of_ble_eq_true rfl) (c_X9_init h4) ?_
  refine hs_astore_n (lv' := [(2, .ref r3.1), (1, .ref r1.1), (0, .retAddr 0)]) dL_law_15 (by decide) rfl ?_
  refine hs_iconst (v := (1 : Int32)) dL_law_16 (by decide) ?_
  obtain ⟨r5, h5, h⟩ := hb_bind h
  refine hs_newL (rc := 600875) (rs := 7280108) (k := 1) dL_law_17 wd_183 h5 (by decide) ?_
  refine hs_astore_n (lv' := [(3, .ref r5.1), (2, .ref r3.1), (1, .ref r1.1), (0, .retAddr 0)]) dL_law_19 (by decide) rfl ?_
  refine hs_iconst (v := (0 : Int32)) dL_law_20 (by decide) ?_
  refine hs_istore (lv' := [(4, .int (0 : Int32)), (3, .ref r5.1), (2, .ref r3.1), (1, .ref r1.1), (0, .retAddr 0)]) dL_law_21 (by decide) rfl ?_
  refine hs_sub (lv' := [(0, .retAddr 0), (1, .ref r1.1), (2, .ref r3.1), (3, .ref r5.1), (4, .int (0 : Int32))]) [4, 3, 2, 1, 0] rfl ?_
  refine hs_seal (rc' := 3 * 600) (rs' := 18 * 600) rfl (by decide) (by decide) ?_
  exact c_L_law_b23 hl 600 _ _ _ _ _ _ h
