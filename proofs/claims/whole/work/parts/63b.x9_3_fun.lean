def mX9_isGroup : hb_Y := (yX9_isGroup, cX9_isGroup, 2, (some .boolean), [], false)
theorem okX9_isGroup : hb_okV mX9_isGroup 1 := ⟨⟨hb_w 11 (by decide +kernel) (by decide +kernel), hb_w 1708 (by decide +kernel) (by decide +kernel), ⟨by decide +kernel, by decide +kernel, by decide +kernel⟩, by decide⟩, hb_w 1707 (by decide +kernel) (by decide +kernel), hb_wp (q := (yX9_isGroup, 29)) 70 (by decide +kernel) (by decide +kernel)⟩
set_option maxHeartbeats 4000000 in
set_option maxRecDepth 20000 in
theorem c_X9_isGroup {G : hb_G} {l : Launch} {z : Bool} {x0 : Nat} {x1 : Int32} {σ : hb_M} {r : (Int32 × hb_M)} (h : f_X9_isGroup x0 x1 σ = some r) : hb_Call G l z 2 0 0 mX9_isGroup [.ref x0, .int x1] σ (.inl (some (.int r.1)), r.2) := by
  refine hb_met (by decide) (Nat.le_of_ble_eq_true rfl) ?_
  unfold f_X9_isGroup at h
  refine hs_aload_n dX9_isGroup_0 0 rfl ?_
  refine hs_iload_n dX9_isGroup_1 1 rfl ?_
  obtain ⟨r1, h1, h⟩ := hb_bind h
  obtain ⟨h1, nf1, hb1⟩ := hb_on_at h1
  refine hs_callVi (μ' := mX9_isClass) (mc := 0) (ms := 0) (rc := 0) (rs := 0) (As := [.int x1]) (rest := []) (ci := 9) dX9_isGroup_2 lmX9_86 okX9_isClass rfl (by decide) rfl (Nat.le_of_ble_eq_true rfl) rfl hb1 (c_X9_isClass h1) ?_
  refine hs_if_ne (tgt := 20) dX9_isGroup_5 (by decide) (fun hc2 => ?_) (fun hc2 => ?_)
  · rw [if_neg hc2] at h
    refine hs_iconst (v := (1 : Int32)) dX9_isGroup_20 (by decide) ?_
    refine hs_goto (tgt := 25) dX9_isGroup_21 (by decide) ?_
    obtain rfl := Option.some.inj h
    exact hs_ireturn dX9_isGroup_25 rfl (by decide) (fun _ => rfl)
  · rw [if_pos hc2] at h
    refine hs_iload_n dX9_isGroup_8 1 rfl ?_
    refine hs_bipush (v := (10 : Int32)) dX9_isGroup_9 (by decide) ?_
    refine hs_icmp_eq (tgt := 20) dX9_isGroup_11 (by decide) (fun hc3 => ?_) (fun hc3 => ?_)
    · rw [if_pos hc3] at h
      refine hs_iconst (v := (1 : Int32)) dX9_isGroup_20 (by decide) ?_
      refine hs_goto (tgt := 25) dX9_isGroup_21 (by decide) ?_
      obtain rfl := Option.some.inj h
      exact hs_ireturn dX9_isGroup_25 rfl (by decide) (fun _ => rfl)
    · rw [if_neg hc3] at h
      refine hs_iload_n dX9_isGroup_14 1 rfl ?_
      refine hs_bipush (v := (11 : Int32)) dX9_isGroup_15 (by decide) ?_
      refine hs_icmp_ne (tgt := 24) dX9_isGroup_17 (by decide) (fun hc4 => ?_) (fun hc4 => ?_)
      · rw [if_neg hc4] at h
        refine hs_iconst (v := (0 : Int32)) dX9_isGroup_24 (by decide) ?_
        obtain rfl := Option.some.inj h
        exact hs_ireturn dX9_isGroup_25 rfl (by decide) (fun _ => rfl)
      · rw [if_pos hc4] at h
        refine hs_iconst (v := (1 : Int32)) dX9_isGroup_20 (by decide) ?_
        refine hs_goto (tgt := 25) dX9_isGroup_21 (by decide) ?_
        obtain rfl := Option.some.inj h
        exact hs_ireturn dX9_isGroup_25 rfl (by decide) (fun _ => rfl)
def mX9_groupSet : hb_Y := (yX9_groupSet, cX9_groupSet, 8, (some .long), [], false)
theorem okX9_groupSet : hb_okV mX9_groupSet 2 := ⟨⟨hb_w 11 (by decide +kernel) (by decide +kernel), hb_w 1712 (by decide +kernel) (by decide +kernel), ⟨by decide +kernel, by decide +kernel, by decide +kernel⟩, by decide⟩, hb_w 1711 (by decide +kernel) (by decide +kernel), hb_wp (q := (yX9_groupSet, 29)) 71 (by decide +kernel) (by decide +kernel)⟩
set_option maxHeartbeats 4000000 in
set_option maxRecDepth 20000 in
theorem c_X9_groupSet_b91 {G : hb_G} {l : Launch} {z : Bool}  (k5 : Nat → Int32 → Int32 → Int64 → Int32 → hb_M → Option (Int64 × hb_M)) (hk5 : ∀ (x0 : Nat) (x1 : Int32) (x2 : Int32) (x3 : Int64) (x5 : Int32) (σ : hb_M) (r : (Int64 × hb_M)), k5 x0 x1 x2 x3 x5 σ = some r → hb_T G l z mX9_groupSet 2 0 0 5 [(0, .ref x0), (1, .int x1), (2, .int x2), (3, .long x3), (5, .int x5)] [] σ (.inl (some (.long r.1)), r.2))  {x0 : Nat} {x1 : Int32} {x2 : Int32} {x3 : Int64} {x5 : Int32} {σ : hb_M} {r : (Int64 × hb_M)} (h : f_X9_groupSet_b91 k5 x0 x1 x2 x3 x5 σ = some r) : hb_T G l z mX9_groupSet 2 0 0 91 [(0, .ref x0), (1, .int x1), (2, .int x2), (3, .long x3), (5, .int x5)] [] σ (.inl (some (.long r.1)), r.2) := by
  unfold f_X9_groupSet_b91 at h
  refine hs_iinc2 (k := (1 : Int32)) (lv' := [(5, .int (x5 + (1 : Int32))), (0, .ref x0), (1, .int x1), (2, .int x2), (3, .long x3)]) dX9_groupSet_91 (by decide) 4 rfl (by decide) rfl ?_
  refine hs_goto (tgt := 5) dX9_groupSet_94 (by decide) ?_
  refine hs_sub (lv' := [(0, .ref x0), (1, .int x1), (2, .int x2), (3, .long x3), (5, .int (x5 + (1 : Int32)))]) [1, 2, 3, 4, 0] rfl ?_
  exact hk5 _ _ _ _ _ _ _ h
set_option maxHeartbeats 4000000 in
set_option maxRecDepth 20000 in
theorem c_X9_groupSet_b89 {G : hb_G} {l : Launch} {z : Bool}  (k5 : Nat → Int32 → Int32 → Int64 → Int32 → hb_M → Option (Int64 × hb_M)) (hk5 : ∀ (x0 : Nat) (x1 : Int32) (x2 : Int32) (x3 : Int64) (x5 : Int32) (σ : hb_M) (r : (Int64 × hb_M)), k5 x0 x1 x2 x3 x5 σ = some r → hb_T G l z mX9_groupSet 2 0 0 5 [(0, .ref x0), (1, .int x1), (2, .int x2), (3, .long x3), (5, .int x5)] [] σ (.inl (some (.long r.1)), r.2))  {x0 : Nat} {x1 : Int32} {x2 : Int32} {x5 : Int32} {s0 : Int64} {s1 : Int64} {σ : hb_M} {r : (Int64 × hb_M)} (h : f_X9_groupSet_b89 k5 x0 x1 x2 x5 s0 s1 σ = some r) : hb_T G l z mX9_groupSet 2 0 0 89 [(0, .ref x0), (1, .int x1), (2, .int x2), (5, .int x5)] [.long s1, .long s0] σ (.inl (some (.long r.1)), r.2) := by
  unfold f_X9_groupSet_b89 at h
  refine hs_lor dX9_groupSet_89 ?_
  refine hs_lstore_n (lv' := [(3, .long (s0 ||| s1)), (0, .ref x0), (1, .int x1), (2, .int x2), (5, .int x5)]) dX9_groupSet_90 (by decide) rfl ?_
  refine hs_sub (lv' := [(0, .ref x0), (1, .int x1), (2, .int x2), (3, .long (s0 ||| s1)), (5, .int x5)]) [1, 2, 3, 0, 4] rfl ?_
  exact c_X9_groupSet_b91 k5 hk5 h
set_option maxHeartbeats 4000000 in
set_option maxRecDepth 20000 in
theorem c_X9_groupSet_b73 {G : hb_G} {l : Launch} {z : Bool}  (k5 : Nat → Int32 → Int32 → Int64 → Int32 → hb_M → Option (Int64 × hb_M)) (hk5 : ∀ (x0 : Nat) (x1 : Int32) (x2 : Int32) (x3 : Int64) (x5 : Int32) (σ : hb_M) (r : (Int64 × hb_M)), k5 x0 x1 x2 x3 x5 σ = some r → hb_T G l z mX9_groupSet 2 0 0 5 [(0, .ref x0), (1, .int x1), (2, .int x2), (3, .long x3), (5, .int x5)] [] σ (.inl (some (.long r.1)), r.2))  {x0 : Nat} {x1 : Int32} {x2 : Int32} {x3 : Int64} {x5 : Int32} {s0 : Int32} {σ : hb_M} {r : (Int64 × hb_M)} (h : f_X9_groupSet_b73 k5 x0 x1 x2 x3 x5 s0 σ = some r) : hb_T G l z mX9_groupSet 2 0 0 73 [(0, .ref x0), (1, .int x1), (2, .int x2), (3, .long x3), (5, .int x5)] [.int s0] σ (.inl (some (.long r.1)), r.2) := by
  unfold f_X9_groupSet_b73 at h
  refine hs_istore (lv' := [(7, .int s0), (0, .ref x0), (1, .int x1), (2, .int x2), (3, .long x3), (5, .int x5)]) dX9_groupSet_73 (by decide) rfl ?_
  refine hs_lload_n dX9_groupSet_75 4 rfl ?_
  refine hs_iload dX9_groupSet_76 0 rfl ?_
  refine hs_if_eq (tgt := 88) dX9_groupSet_78 (by decide) (fun hc1 => ?_) (fun hc1 => ?_)
  · rw [if_pos hc1] at h
    refine hs_lconst (v := (0 : Int64)) dX9_groupSet_88 (by decide) ?_
    refine hs_sub (lv' := [(0, .ref x0), (1, .int x1), (2, .int x2), (5, .int x5)]) [1, 2, 3, 5] rfl ?_
    exact c_X9_groupSet_b89 k5 hk5 h
  · rw [if_neg hc1] at h
    refine hs_lconst (v := (1 : Int64)) dX9_groupSet_81 (by decide) ?_
    refine hs_iload dX9_groupSet_82 5 rfl ?_
    refine hs_lshl dX9_groupSet_84 ?_
    refine hs_goto (tgt := 89) dX9_groupSet_85 (by decide) ?_
    refine hs_sub (lv' := [(0, .ref x0), (1, .int x1), (2, .int x2), (5, .int x5)]) [1, 2, 3, 5] rfl ?_
    exact c_X9_groupSet_b89 k5 hk5 h
set_option maxHeartbeats 4000000 in
set_option maxRecDepth 20000 in
theorem c_X9_groupSet_b68 {G : hb_G} {l : Launch} {z : Bool}  (k5 : Nat → Int32 → Int32 → Int64 → Int32 → hb_M → Option (Int64 × hb_M)) (hk5 : ∀ (x0 : Nat) (x1 : Int32) (x2 : Int32) (x3 : Int64) (x5 : Int32) (σ : hb_M) (r : (Int64 × hb_M)), k5 x0 x1 x2 x3 x5 σ = some r → hb_T G l z mX9_groupSet 2 0 0 5 [(0, .ref x0), (1, .int x1), (2, .int x2), (3, .long x3), (5, .int x5)] [] σ (.inl (some (.long r.1)), r.2))  {x0 : Nat} {x1 : Int32} {x2 : Int32} {x3 : Int64} {x5 : Int32} {σ : hb_M} {r : (Int64 × hb_M)} (h : f_X9_groupSet_b68 k5 x0 x1 x2 x3 x5 σ = some r) : hb_T G l z mX9_groupSet 2 0 0 68 [(0, .ref x0), (1, .int x1), (2, .int x2), (3, .long x3), (5, .int x5)] [] σ (.inl (some (.long r.1)), r.2) := by
  unfold f_X9_groupSet_b68 at h
  refine hs_iconst (v := (1 : Int32)) dX9_groupSet_68 (by decide) ?_
  refine hs_goto (tgt := 73) dX9_groupSet_69 (by decide) ?_
  refine hs_sub (lv' := [(0, .ref x0), (1, .int x1), (2, .int x2), (3, .long x3), (5, .int x5)]) [0, 1, 2, 3, 4] rfl ?_
  exact c_X9_groupSet_b73 k5 hk5 h
set_option maxHeartbeats 4000000 in
set_option maxRecDepth 20000 in
theorem c_X9_groupSet_b72 {G : hb_G} {l : Launch} {z : Bool}  (k5 : Nat → Int32 → Int32 → Int64 → Int32 → hb_M → Option (Int64 × hb_M)) (hk5 : ∀ (x0 : Nat) (x1 : Int32) (x2 : Int32) (x3 : Int64) (x5 : Int32) (σ : hb_M) (r : (Int64 × hb_M)), k5 x0 x1 x2 x3 x5 σ = some r → hb_T G l z mX9_groupSet 2 0 0 5 [(0, .ref x0), (1, .int x1), (2, .int x2), (3, .long x3), (5, .int x5)] [] σ (.inl (some (.long r.1)), r.2))  {x0 : Nat} {x1 : Int32} {x2 : Int32} {x3 : Int64} {x5 : Int32} {σ : hb_M} {r : (Int64 × hb_M)} (h : f_X9_groupSet_b72 k5 x0 x1 x2 x3 x5 σ = some r) : hb_T G l z mX9_groupSet 2 0 0 72 [(0, .ref x0), (1, .int x1), (2, .int x2), (3, .long x3), (5, .int x5)] [] σ (.inl (some (.long r.1)), r.2) := by
  unfold f_X9_groupSet_b72 at h
  refine hs_iconst (v := (0 : Int32)) dX9_groupSet_72 (by decide) ?_
  refine hs_sub (lv' := [(0, .ref x0), (1, .int x1), (2, .int x2), (3, .long x3), (5, .int x5)]) [0, 1, 2, 3, 4] rfl ?_
  exact c_X9_groupSet_b73 k5 hk5 h
set_option maxHeartbeats 4000000 in
set_option maxRecDepth 20000 in
theorem c_X9_groupSet_b5 {G : hb_G} {l : Launch} {z : Bool} : ∀ (n : Nat) (x0 : Nat) (x1 : Int32) (x2 : Int32) (x3 : Int64) (x5 : Int32) (σ : hb_M) (r : (Int64 × hb_M)), f_X9_groupSet_b5 n x0 x1 x2 x3 x5 σ = some r → hb_T G l z mX9_groupSet 2 0 0 5 [(0, .ref x0), (1, .int x1), (2, .int x2), (3, .long x3), (5, .int x5)] [] σ (.inl (some (.long r.1)), r.2) := by
  intro n
  induction n with
  | zero =>
    intro x0 x1 x2 x3 x5 σ r h
    cases h
  | succ n ih =>
    intro x0 x1 x2 x3 x5 σ r h
    rw [f_X9_groupSet_b5] at h
    refine hs_iload dX9_groupSet_5 4 rfl ?_
    refine hs_bipush (v := (40 : Int32)) dX9_groupSet_7 (by decide) ?_
    refine hs_icmp_ge (tgt := 97) dX9_groupSet_9 (by decide) (fun hc1 => ?_) (fun hc1 => ?_)
    · rw [if_pos hc1] at h
      refine hs_lload_n dX9_groupSet_97 3 rfl ?_
      obtain rfl := Option.some.inj h
      exact hs_lreturn dX9_groupSet_98 rfl (fun _ => rfl)
    · rw [if_neg hc1] at h
      refine hs_aload_n dX9_groupSet_12 0 rfl ?_
      refine hs_iload dX9_groupSet_13 4 rfl ?_
      obtain ⟨r2, h2, h⟩ := hb_bind h
      obtain ⟨h2, nf2, hb2⟩ := hb_on_at h2
      refine hs_callVi (μ' := mX9_isObject) (mc := 0) (ms := 0) (rc := 0) (rs := 0) (As := [.int x5]) (rest := []) (ci := 9) dX9_groupSet_15 lmX9_106 okX9_isObject rfl (by decide) rfl (Nat.le_of_ble_eq_true rfl) rfl hb2 (c_X9_isObject h2) ?_
      refine hs_if_eq (tgt := 91) dX9_groupSet_18 (by decide) (fun hc3 => ?_) (fun hc3 => ?_)
      · rw [if_pos hc3] at h
        refine hs_sub (lv' := [(0, .ref x0), (1, .int x1), (2, .int x2), (3, .long x3), (5, .int x5)]) [0, 1, 2, 3, 4] rfl ?_
        exact c_X9_groupSet_b91 (f_X9_groupSet_b5 n) ih h
      · rw [if_neg hc3] at h
        refine hs_aload_n dX9_groupSet_21 0 rfl ?_
        obtain ⟨r4, h4, h⟩ := hb_bind h
        refine hs_getR dX9_groupSet_22 lkX9_7 rfl h4 ?_
        refine hs_iload dX9_groupSet_25 4 rfl ?_
        obtain ⟨r5, h5, h⟩ := hb_bind h
        refine hs_callSi (μ' := mX9_at) (mc := 0) (ms := 0) (rc := 0) (rs := 0) (As := [.int x5]) (rest := [.ref r4]) dX9_groupSet_27 lmX9_103 okX9_at rfl (by decide) rfl (Nat.le_of_ble_eq_true rfl) (c_X9_at h5) ?_
        refine hs_iconst (v := (1 : Int32)) dX9_groupSet_30 (by decide) ?_
        refine hs_iadd dX9_groupSet_31 ?_
        obtain ⟨r6, h6, h⟩ := hb_bind h
        refine hs_iald dX9_groupSet_32 h6 ?_
        refine hs_istore (lv' := [(6, .int r6), (0, .ref x0), (1, .int x1), (2, .int x2), (3, .long x3), (5, .int x5)]) dX9_groupSet_33 (by decide) rfl ?_
        refine hs_iload dX9_groupSet_35 0 rfl ?_
        refine hs_iload_n dX9_groupSet_37 2 rfl ?_
        refine hs_icmp_eq (tgt := 68) dX9_groupSet_38 (by decide) (fun hc7 => ?_) (fun hc7 => ?_)
        · rw [if_pos hc7] at h
          refine hs_sub (lv' := [(0, .ref x0), (1, .int x1), (2, .int x2), (3, .long x3), (5, .int x5)]) [1, 2, 3, 4, 5] rfl ?_
          exact c_X9_groupSet_b68 (f_X9_groupSet_b5 n) ih h
        · rw [if_neg hc7] at h
          refine hs_iload_n dX9_groupSet_41 3 rfl ?_
          refine hs_if_eq (tgt := 72) dX9_groupSet_42 (by decide) (fun hc8 => ?_) (fun hc8 => ?_)
          · rw [if_pos hc8] at h
            refine hs_sub (lv' := [(0, .ref x0), (1, .int x1), (2, .int x2), (3, .long x3), (5, .int x5)]) [1, 2, 3, 4, 5] rfl ?_
            exact c_X9_groupSet_b72 (f_X9_groupSet_b5 n) ih h
          · rw [if_neg hc8] at h
            refine hs_iload_n dX9_groupSet_45 2 rfl ?_
            refine hs_bipush (v := (10 : Int32)) dX9_groupSet_46 (by decide) ?_
            refine hs_icmp_ge (tgt := 72) dX9_groupSet_48 (by decide) (fun hc9 => ?_) (fun hc9 => ?_)
            · rw [if_pos hc9] at h
              refine hs_sub (lv' := [(0, .ref x0), (1, .int x1), (2, .int x2), (3, .long x3), (5, .int x5)]) [1, 2, 3, 4, 5] rfl ?_
              exact c_X9_groupSet_b72 (f_X9_groupSet_b5 n) ih h
            · rw [if_neg hc9] at h
              refine hs_iload dX9_groupSet_51 0 rfl ?_
              refine hs_bipush (v := (10 : Int32)) dX9_groupSet_53 (by decide) ?_
              refine hs_icmp_ge (tgt := 72) dX9_groupSet_55 (by decide) (fun hc10 => ?_) (fun hc10 => ?_)
              · rw [if_pos hc10] at h
                refine hs_sub (lv' := [(0, .ref x0), (1, .int x1), (2, .int x2), (3, .long x3), (5, .int x5)]) [1, 2, 3, 4, 5] rfl ?_
                exact c_X9_groupSet_b72 (f_X9_groupSet_b5 n) ih h
              · rw [if_neg hc10] at h
                refine hs_aload_n dX9_groupSet_58 1 rfl ?_
                refine hs_iload dX9_groupSet_59 0 rfl ?_
                refine hs_iload_n dX9_groupSet_61 2 rfl ?_
                obtain ⟨r11, h11, h⟩ := hb_bind h
                obtain ⟨h11, nf11, hb11⟩ := hb_on_at h11
                refine hs_callVi (μ' := mX9_isBelow) (mc := 0) (ms := 0) (rc := 0) (rs := 0) (As := [.int r6, .int x1]) (rest := []) (ci := 9) dX9_groupSet_62 lmX9_99 okX9_isBelow rfl (by decide) rfl (Nat.le_of_ble_eq_true rfl) rfl hb11 (c_X9_isBelow h11) ?_
                refine hs_if_eq (tgt := 72) dX9_groupSet_65 (by decide) (fun hc12 => ?_) (fun hc12 => ?_)
                · rw [if_pos hc12] at h
                  refine hs_sub (lv' := [(0, .ref x0), (1, .int x1), (2, .int x2), (3, .long x3), (5, .int x5)]) [1, 2, 3, 4, 5] rfl ?_
                  exact c_X9_groupSet_b72 (f_X9_groupSet_b5 n) ih h
                · rw [if_neg hc12] at h
                  refine hs_sub (lv' := [(0, .ref x0), (1, .int x1), (2, .int x2), (3, .long x3), (5, .int x5)]) [1, 2, 3, 4, 5] rfl ?_
                  exact c_X9_groupSet_b68 (f_X9_groupSet_b5 n) ih h
set_option maxHeartbeats 4000000 in
set_option maxRecDepth 20000 in
theorem c_X9_groupSet {G : hb_G} {l : Launch} {z : Bool} {x0 : Nat} {x1 : Int32} {x2 : Int32} {σ : hb_M} {r : (Int64 × hb_M)} (h : f_X9_groupSet x0 x1 x2 σ = some r) : hb_Call G l z 2 0 0 mX9_groupSet [.ref x0, .int x1, .int x2] σ (.inl (some (.long r.1)), r.2) := by
  refine hb_met (by decide) (Nat.le_of_ble_eq_true rfl) ?_
  unfold f_X9_groupSet at h
  refine hs_lconst (v := (0 : Int64)) dX9_groupSet_0 (by decide) ?_
  refine hs_lstore_n (lv' := [(3, .long (0 : Int64)), (0, .ref x0), (1, .int x1), (2, .int x2)]) dX9_groupSet_1 (by decide) rfl ?_
  refine hs_iconst (v := (0 : Int32)) dX9_groupSet_2 (by decide) ?_
  refine hs_istore (lv' := [(5, .int (0 : Int32)), (3, .long (0 : Int64)), (0, .ref x0), (1, .int x1), (2, .int x2)]) dX9_groupSet_3 (by decide) rfl ?_
  refine hs_sub (lv' := [(0, .ref x0), (1, .int x1), (2, .int x2), (3, .long (0 : Int64)), (5, .int (0 : Int32))]) [2, 3, 4, 1, 0] rfl ?_
  exact c_X9_groupSet_b5 hb_FU _ _ _ _ _ _ _ h
def mX9_group : hb_Y := (yX9_group, cX9_group, 8, (some .int), [], false)
set_option maxHeartbeats 4000000 in
set_option maxRecDepth 20000 in
theorem c_X9_group_b27 {G : hb_G} {l : Launch} {z : Bool}  {x0 : Nat} {x1 : Int32} {x2 : Int32} {x3 : Int32} {s0 : Nat} {s1 : Int32} {σ : hb_M} {r : (Int32 × hb_M)} (h : f_X9_group_b27 x0 x1 x2 x3 s0 s1 σ = some r) : hb_T G l z mX9_group 4 0 0 27 [(0, .ref x0), (1, .int x1), (2, .int x2), (3, .int x3)] [.int s1, .ref s0] σ (.inl (some (.int r.1)), r.2) := by
  unfold f_X9_group_b27 at h
  obtain ⟨r1, h1, h⟩ := hb_bind h
  obtain ⟨h1, nf1, hb1⟩ := hb_on_at h1
  refine hs_callVi (μ' := mX9_refused) (mc := 0) (ms := 0) (rc := 0) (rs := 0) (As := [.int s1]) (rest := []) (ci := 9) dX9_group_27 lmX9_74 okX9_refused rfl (by decide) rfl (Nat.le_of_ble_eq_true rfl) rfl hb1 (c_X9_refused h1) ?_
  refine hs_if_eq (tgt := 35) dX9_group_30 (by decide) (fun hc2 => ?_) (fun hc2 => ?_)
  · rw [if_pos hc2] at h
    refine hs_aload_n dX9_group_35 0 rfl ?_
    refine hs_iload_n dX9_group_36 1 rfl ?_
    refine hs_iload_n dX9_group_37 3 rfl ?_
    obtain ⟨r3, h3, h⟩ := hb_bind h
    obtain ⟨h3, nf3, hb3⟩ := hb_on_at h3
    refine hs_callVl (μ' := mX9_groupSet) (mc := 0) (ms := 0) (rc := 0) (rs := 0) (As := [.int x1, .int x3]) (rest := []) (ci := 9) dX9_group_38 lmX9_224 okX9_groupSet rfl (by decide) rfl (Nat.le_of_ble_eq_true rfl) rfl hb3 (c_X9_groupSet h3) ?_
    refine hs_lstore (lv' := [(4, .long r3.1), (0, .ref x0), (1, .int x1), (2, .int x2), (3, .int x3)]) dX9_group_41 (by decide) rfl ?_
    refine hs_aload_n dX9_group_43 1 rfl ?_
    refine hs_lconst (v := (0 : Int64)) dX9_group_44 (by decide) ?_
    refine hs_iconst (v := (-1 : Int32)) dX9_group_45 (by decide) ?_
    refine hs_iconst (v := (-1 : Int32)) dX9_group_46 (by decide) ?_
    refine hs_iconst (v := (-1 : Int32)) dX9_group_47 (by decide) ?_
    obtain ⟨r4, h4, h⟩ := hb_bind h
    obtain ⟨h4, nf4, hb4⟩ := hb_on_at h4
    refine hs_callVl (μ' := mX9_reached) (mc := 0) (ms := 0) (rc := 0) (rs := 0) (As := [.long (0 : Int64), .int (-1 : Int32), .int (-1 : Int32), .int (-1 : Int32)]) (rest := []) (ci := 9) dX9_group_48 lmX9_138 okX9_reached rfl (by decide) rfl (Nat.le_of_ble_eq_true rfl) rfl hb4 (c_X9_reached h4) ?_
    refine hs_lstore (lv' := [(6, .long r4.1), (4, .long r3.1), (0, .ref x0), (1, .int x1), (2, .int x2), (3, .int x3)]) dX9_group_51 (by decide) rfl ?_
    refine hs_iload_n dX9_group_53 4 rfl ?_
    by_cases hc5 : x2 = (0 : Int32)
    · rw [if_pos hc5] at h
      refine hs_tblC (tgt := 80) (off := 26) (0 : Int32) dX9_group_54 hc5 (by decide) (by decide) (by decide) (by decide) ?_
      refine hs_lload dX9_group_80 1 rfl ?_
      obtain ⟨r6, h6, h⟩ := hb_bind h
      refine hs_callSi (μ' := mX9_bits) (mc := 0) (ms := 0) (rc := 0) (rs := 0) (As := [.long r3.1]) (rest := []) dX9_group_82 lmX9_211 okX9_bits rfl (by decide) rfl (Nat.le_of_ble_eq_true rfl) (c_X9_bits h6) ?_
      obtain rfl := Option.some.inj h
      exact hs_ireturn dX9_group_85 rfl (by rfl) (fun _ => rfl)
    rw [if_neg hc5] at h
    by_cases hc7 : x2 = (1 : Int32)
    · rw [if_pos hc7] at h
      refine hs_tblC (tgt := 86) (off := 32) (1 : Int32) dX9_group_54 hc7 (by decide) (by decide) (by decide) (by decide) ?_
      refine hs_lload dX9_group_86 1 rfl ?_
      refine hs_lload dX9_group_88 0 rfl ?_
      refine hs_land dX9_group_90 ?_
      obtain ⟨r8, h8, h⟩ := hb_bind h
      refine hs_callSi (μ' := mX9_bits) (mc := 0) (ms := 0) (rc := 0) (rs := 0) (As := [.long (r3.1 &&& r4.1)]) (rest := []) dX9_group_91 lmX9_211 okX9_bits rfl (by decide) rfl (Nat.le_of_ble_eq_true rfl) (c_X9_bits h8) ?_
      obtain rfl := Option.some.inj h
      exact hs_ireturn dX9_group_94 rfl (by rfl) (fun _ => rfl)
    rw [if_neg hc7] at h
    by_cases hc9 : x2 = (2 : Int32)
    · rw [if_pos hc9] at h
      refine hs_tblC (tgt := 95) (off := 41) (2 : Int32) dX9_group_54 hc9 (by decide) (by decide) (by decide) (by decide) ?_
      refine hs_aload_n dX9_group_95 2 rfl ?_
      refine hs_lload dX9_group_96 1 rfl ?_
      obtain ⟨r10, h10, h⟩ := hb_bind h
      obtain ⟨h10, nf10, hb10⟩ := hb_on_at h10
      refine hs_callVl (μ' := mX9_sizes) (mc := 0) (ms := 0) (rc := 0) (rs := 0) (As := [.long r3.1]) (rest := []) (ci := 9) dX9_group_98 lmX9_204 okX9_sizes rfl (by decide) rfl (Nat.le_of_ble_eq_true rfl) rfl hb10 (c_X9_sizes h10) ?_
      refine hs_l2i dX9_group_101 ?_
      obtain rfl := Option.some.inj h
      exact hs_ireturn dX9_group_102 rfl (by rfl) (fun _ => rfl)
    rw [if_neg hc9] at h
    refine hs_tblD (tgt := 103) [(0 : Int32), (1 : Int32), (2 : Int32)] dX9_group_54 (by simp only [List.mem_cons, List.not_mem_nil, or_false, forall_eq_or_imp, forall_eq]; exact ⟨hc5, hc7, hc9⟩) (by decide) (by decide) (by decide) ?_
    refine hs_aload_n dX9_group_103 2 rfl ?_
    refine hs_lload dX9_group_104 0 rfl ?_
    refine hs_aload_n dX9_group_106 2 rfl ?_
    refine hs_lload dX9_group_107 1 rfl ?_
    refine hs_iconst (v := (-1 : Int32)) dX9_group_109 (by decide) ?_
    refine hs_iconst (v := (-1 : Int32)) dX9_group_110 (by decide) ?_
    refine hs_iconst (v := (-1 : Int32)) dX9_group_111 (by decide) ?_
    obtain ⟨r11, h11, h⟩ := hb_bind h
    obtain ⟨h11, nf11, hb11⟩ := hb_on_at h11
    refine hs_callVl (μ' := mX9_reached) (mc := 0) (ms := 0) (rc := 0) (rs := 0) (As := [.long r3.1, .int (-1 : Int32), .int (-1 : Int32), .int (-1 : Int32)]) (rest := [.long r4.1, .ref x0]) (ci := 9) dX9_group_112 lmX9_138 okX9_reached rfl (by decide) rfl (Nat.le_of_ble_eq_true rfl) rfl hb11 (c_X9_reached h11) ?_
    refine hs_ldc2 (v := (-1 : Int64)) dX9_group_115 wd_1558 ?_
    refine hs_lxor dX9_group_118 ?_
    refine hs_land dX9_group_119 ?_
    obtain ⟨r12, h12, h⟩ := hb_bind h
    obtain ⟨h12, nf12, hb12⟩ := hb_on_at h12
    refine hs_callVl (μ' := mX9_sizes) (mc := 0) (ms := 0) (rc := 0) (rs := 0) (As := [.long (r4.1 &&& (r11.1 ^^^ (-1 : Int64)))]) (rest := []) (ci := 9) dX9_group_120 lmX9_204 okX9_sizes rfl (by decide) rfl (Nat.le_of_ble_eq_true rfl) rfl hb12 (c_X9_sizes h12) ?_
    refine hs_l2i dX9_group_123 ?_
    obtain rfl := Option.some.inj h
    exact hs_ireturn dX9_group_124 rfl (by rfl) (fun _ => rfl)
  · rw [if_neg hc2] at h
    refine hs_iconst (v := (0 : Int32)) dX9_group_33 (by decide) ?_
    obtain rfl := Option.some.inj h
    exact hs_ireturn dX9_group_34 rfl (by rfl) (fun _ => rfl)
set_option maxHeartbeats 4000000 in
set_option maxRecDepth 20000 in
theorem c_X9_group {G : hb_G} {l : Launch} {z : Bool} {x0 : Nat} {x1 : Int32} {x2 : Int32} {x3 : Int32} {σ : hb_M} {r : (Int32 × hb_M)} (h : f_X9_group x0 x1 x2 x3 σ = some r) : hb_Call G l z 4 0 0 mX9_group [.ref x0, .int x1, .int x2, .int x3] σ (.inl (some (.int r.1)), r.2) := by
  refine hb_met (by decide) (Nat.le_of_ble_eq_true rfl) ?_
  unfold f_X9_group at h
  refine hs_aload_n dX9_group_0 0 rfl ?_
  refine hs_aload_n dX9_group_1 0 rfl ?_
  refine hs_iload_n dX9_group_2 1 rfl ?_
  obtain ⟨r1, h1, h⟩ := hb_bind h
  obtain ⟨h1, nf1, hb1⟩ := hb_on_at h1
  refine hs_callVi (μ' := mX9_isGroup) (mc := 0) (ms := 0) (rc := 0) (rs := 0) (As := [.int x1]) (rest := [.ref x0]) (ci := 9) dX9_group_3 lmX9_221 okX9_isGroup rfl (by decide) rfl (Nat.le_of_ble_eq_true rfl) rfl hb1 (c_X9_isGroup h1) ?_
  refine hs_if_ne (tgt := 13) dX9_group_6 (by decide) (fun hc2 => ?_) (fun hc2 => ?_)
  · rw [if_neg hc2] at h
    refine hs_iload_n dX9_group_13 2 rfl ?_
    refine hs_iconst (v := (0 : Int32)) dX9_group_14 (by decide) ?_
    refine hs_iconst (v := (3 : Int32)) dX9_group_15 (by decide) ?_
    obtain ⟨r3, h3, h⟩ := hb_bind h
    refine hs_callSi (μ' := mX9_within) (mc := 0) (ms := 0) (rc := 0) (rs := 0) (As := [.int x2, .int (0 : Int32), .int (3 : Int32)]) (rest := [.ref x0]) dX9_group_16 lmX9_78 okX9_within rfl (by decide) rfl (Nat.le_of_ble_eq_true rfl) (c_X9_within h3) ?_
    refine hs_if_ne (tgt := 26) dX9_group_19 (by decide) (fun hc4 => ?_) (fun hc4 => ?_)
    · rw [if_neg hc4] at h
      refine hs_iconst (v := (0 : Int32)) dX9_group_26 (by decide) ?_
      refine hs_sub (lv' := [(0, .ref x0), (1, .int x1), (2, .int x2), (3, .int x3)]) [0, 1, 2, 3] rfl ?_
      exact c_X9_group_b27 h
    · rw [if_pos hc4] at h
      refine hs_iconst (v := (2 : Int32)) dX9_group_22 (by decide) ?_
      refine hs_goto (tgt := 27) dX9_group_23 (by decide) ?_
      refine hs_sub (lv' := [(0, .ref x0), (1, .int x1), (2, .int x2), (3, .int x3)]) [0, 1, 2, 3] rfl ?_
      exact c_X9_group_b27 h
  · rw [if_pos hc2] at h
    refine hs_iconst (v := (1 : Int32)) dX9_group_9 (by decide) ?_
    refine hs_goto (tgt := 27) dX9_group_10 (by decide) ?_
    refine hs_sub (lv' := [(0, .ref x0), (1, .int x1), (2, .int x2), (3, .int x3)]) [0, 1, 2, 3] rfl ?_
    exact c_X9_group_b27 h
def mJxe99ae_isNaN_b9ae7 : hb_Y := (yJxe99ae_isNaN_b9ae7, cJxe99ae_isNaN_b9ae7, 2, (some .boolean), [], false)
theorem okJxe99ae_isNaN_b9ae7 : hb_okS mJxe99ae_isNaN_b9ae7 1 := ⟨⟨hb_w 22 (by decide +kernel) (by decide +kernel), hb_w 1722 (by decide +kernel) (by decide +kernel), ⟨by decide +kernel, by decide +kernel, by decide +kernel⟩, by decide⟩, hb_w 1721 (by decide +kernel) (by decide +kernel)⟩
set_option maxHeartbeats 4000000 in
set_option maxRecDepth 20000 in
theorem c_Jxe99ae_isNaN_b9ae7 {G : hb_G} {l : Launch} {z : Bool} {x0 : UInt64} {σ : hb_M} {r : (Int32 × hb_M)} (h : f_Jxe99ae_isNaN_b9ae7 x0 σ = some r) : hb_Call G l z 0 0 0 mJxe99ae_isNaN_b9ae7 [.double x0] σ (.inl (some (.int r.1)), r.2) := by
  refine hb_met (by decide) (Nat.le_of_ble_eq_true rfl) ?_
  unfold f_Jxe99ae_isNaN_b9ae7 at h
  refine hs_dload_n dJxe99ae_isNaN_b9ae7_0 0 rfl ?_
  refine hs_dload_n dJxe99ae_isNaN_b9ae7_1 0 rfl ?_
  refine hs_dcmp dJxe99ae_isNaN_b9ae7_2 ?_
  refine hs_if_eq (tgt := 10) dJxe99ae_isNaN_b9ae7_3 (by decide) (fun hc1 => ?_) (fun hc1 => ?_)
  · rw [if_pos hc1] at h
    refine hs_iconst (v := (0 : Int32)) dJxe99ae_isNaN_b9ae7_10 (by decide) ?_
    obtain rfl := Option.some.inj h
    exact hs_ireturn dJxe99ae_isNaN_b9ae7_11 rfl (by decide) (fun _ => rfl)
  · rw [if_neg hc1] at h
    refine hs_iconst (v := (1 : Int32)) dJxe99ae_isNaN_b9ae7_6 (by decide) ?_
    refine hs_goto (tgt := 11) dJxe99ae_isNaN_b9ae7_7 (by decide) ?_
    obtain rfl := Option.some.inj h
    exact hs_ireturn dJxe99ae_isNaN_b9ae7_11 rfl (by decide) (fun _ => rfl)
def mJxe99ae_doubleToLongBits_ccdee : hb_Y := (yJxe99ae_doubleToLongBits_ccdee, cJxe99ae_doubleToLongBits_ccdee, 2, (some .long), [], false)
theorem okJxe99ae_doubleToLongBits_ccdee : hb_okS mJxe99ae_doubleToLongBits_ccdee 1 := ⟨⟨hb_w 22 (by decide +kernel) (by decide +kernel), hb_w 1719 (by decide +kernel) (by decide +kernel), ⟨by decide +kernel, by decide +kernel, by decide +kernel⟩, by decide⟩, hb_w 1718 (by decide +kernel) (by decide +kernel)⟩
set_option maxHeartbeats 4000000 in
set_option maxRecDepth 20000 in
theorem c_Jxe99ae_doubleToLongBits_ccdee {G : hb_G} {l : Launch} {z : Bool} {x0 : UInt64} {σ : hb_M} {r : (Int64 × hb_M)} (h : f_Jxe99ae_doubleToLongBits_ccdee x0 σ = some r) : hb_Call G l z 1 0 0 mJxe99ae_doubleToLongBits_ccdee [.double x0] σ (.inl (some (.long r.1)), r.2) := by
  refine hb_met (by decide) (Nat.le_of_ble_eq_true rfl) ?_
  unfold f_Jxe99ae_doubleToLongBits_ccdee at h
  refine hs_dload_n dJxe99ae_doubleToLongBits_ccdee_0 0 rfl ?_
  obtain ⟨r1, h1, h⟩ := hb_bind h
  refine hs_callSi (μ' := mJxe99ae_isNaN_b9ae7) (mc := 0) (ms := 0) (rc := 0) (rs := 0) (As := [.double x0]) (rest := []) dJxe99ae_doubleToLongBits_ccdee_1 lmJxe99ae_122 okJxe99ae_isNaN_b9ae7 rfl (by decide) rfl (Nat.le_of_ble_eq_true rfl) (c_Jxe99ae_isNaN_b9ae7 h1) ?_
  refine hs_if_ne (tgt := 12) dJxe99ae_doubleToLongBits_ccdee_4 (by decide) (fun hc2 => ?_) (fun hc2 => ?_)
  · rw [if_neg hc2] at h
    refine hs_ldc2 (v := (9221120237041090560 : Int64)) dJxe99ae_doubleToLongBits_ccdee_12 wd_1726 ?_
    obtain rfl := Option.some.inj h
    exact hs_lreturn dJxe99ae_doubleToLongBits_ccdee_15 rfl (fun _ => rfl)
  · rw [if_pos hc2] at h
    refine hs_dload_n dJxe99ae_doubleToLongBits_ccdee_7 0 rfl ?_
    refine hs_d2l dJxe99ae_doubleToLongBits_ccdee_8 wd_1723 wd_1725 wd_1724 wd_22 (Nat.le_of_ble_eq_true rfl) ?_
    obtain rfl := Option.some.inj h
    exact hs_lreturn dJxe99ae_doubleToLongBits_ccdee_11 rfl (fun _ => rfl)
def mX9_meanRetainedBits : hb_Y := (yX9_meanRetainedBits, cX9_meanRetainedBits, 7, (some .long), [], false)
set_option maxHeartbeats 4000000 in
set_option maxRecDepth 20000 in
theorem c_X9_meanRetainedBits_b99 {G : hb_G} {l : Launch} {z : Bool}  {s0 : UInt64} {σ : hb_M} {r : (Int64 × hb_M)} (h : f_X9_meanRetainedBits_b99 s0 σ = some r) : hb_T G l z mX9_meanRetainedBits 5 0 0 99 [] [.double s0] σ (.inl (some (.long r.1)), r.2) := by
  unfold f_X9_meanRetainedBits_b99 at h
  obtain ⟨r1, h1, h⟩ := hb_bind h
  refine hs_callSl (μ' := mJxe99ae_doubleToLongBits_ccdee) (mc := 0) (ms := 0) (rc := 0) (rs := 0) (As := [.double s0]) (rest := []) dX9_meanRetainedBits_99 lmX9_228 okJxe99ae_doubleToLongBits_ccdee rfl (by decide) rfl (Nat.le_of_ble_eq_true rfl) (c_Jxe99ae_doubleToLongBits_ccdee h1) ?_
  obtain rfl := Option.some.inj h
  exact hs_lreturn dX9_meanRetainedBits_102 rfl (fun _ => rfl)
set_option maxHeartbeats 4000000 in
set_option maxRecDepth 20000 in
theorem c_X9_meanRetainedBits_b71 {G : hb_G} {l : Launch} {z : Bool}  (k40 : Nat → Int64 → Int64 → Int32 → hb_M → Option (Int64 × hb_M)) (hk40 : ∀ (x0 : Nat) (x2 : Int64) (x4 : Int64) (x6 : Int32) (σ : hb_M) (r : (Int64 × hb_M)), k40 x0 x2 x4 x6 σ = some r → hb_T G l z mX9_meanRetainedBits 5 0 0 40 [(0, .ref x0), (2, .long x2), (4, .long x4), (6, .int x6)] [] σ (.inl (some (.long r.1)), r.2))  {x0 : Nat} {x2 : Int64} {x6 : Int32} {s0 : Int64} {s1 : Int64} {σ : hb_M} {r : (Int64 × hb_M)} (h : f_X9_meanRetainedBits_b71 k40 x0 x2 x6 s0 s1 σ = some r) : hb_T G l z mX9_meanRetainedBits 5 0 0 71 [(0, .ref x0), (2, .long x2), (6, .int x6)] [.long s1, .long s0] σ (.inl (some (.long r.1)), r.2) := by
  unfold f_X9_meanRetainedBits_b71 at h
  refine hs_ladd dX9_meanRetainedBits_71 ?_
  refine hs_lstore (lv' := [(4, .long (s0 + s1)), (0, .ref x0), (2, .long x2), (6, .int x6)]) dX9_meanRetainedBits_72 (by decide) rfl ?_
  refine hs_iinc2 (k := (1 : Int32)) (lv' := [(6, .int (x6 + (1 : Int32))), (4, .long (s0 + s1)), (0, .ref x0), (2, .long x2)]) dX9_meanRetainedBits_74 (by decide) 3 rfl (by decide) rfl ?_
  refine hs_goto (tgt := 40) dX9_meanRetainedBits_77 (by decide) ?_
  refine hs_sub (lv' := [(0, .ref x0), (2, .long x2), (4, .long (s0 + s1)), (6, .int (x6 + (1 : Int32)))]) [2, 3, 1, 0] rfl ?_
  exact hk40 _ _ _ _ _ _ h
set_option maxHeartbeats 4000000 in
set_option maxRecDepth 20000 in
theorem c_X9_meanRetainedBits_b40 {G : hb_G} {l : Launch} {z : Bool} : ∀ (n : Nat) (x0 : Nat) (x2 : Int64) (x4 : Int64) (x6 : Int32) (σ : hb_M) (r : (Int64 × hb_M)), f_X9_meanRetainedBits_b40 n x0 x2 x4 x6 σ = some r → hb_T G l z mX9_meanRetainedBits 5 0 0 40 [(0, .ref x0), (2, .long x2), (4, .long x4), (6, .int x6)] [] σ (.inl (some (.long r.1)), r.2) := by
  intro n
  induction n with
  | zero =>
    intro x0 x2 x4 x6 σ r h
    cases h
  | succ n ih =>
    intro x0 x2 x4 x6 σ r h
    rw [f_X9_meanRetainedBits_b40] at h
    refine hs_iload dX9_meanRetainedBits_40 3 rfl ?_
    refine hs_bipush (v := (40 : Int32)) dX9_meanRetainedBits_42 (by decide) ?_
    refine hs_icmp_ge (tgt := 80) dX9_meanRetainedBits_44 (by decide) (fun hc1 => ?_) (fun hc1 => ?_)
    · rw [if_pos hc1] at h
      refine hs_lload_n dX9_meanRetainedBits_80 1 rfl ?_
      refine hs_lconst (v := (0 : Int64)) dX9_meanRetainedBits_81 (by decide) ?_
      refine hs_lcmp dX9_meanRetainedBits_82 ?_
      refine hs_if_ne (tgt := 90) dX9_meanRetainedBits_83 (by decide) (fun hc2 => ?_) (fun hc2 => ?_)
      · rw [if_neg hc2] at h
        refine hs_lload dX9_meanRetainedBits_90 2 rfl ?_
        refine hs_l2d dX9_meanRetainedBits_92 ?_
        refine hs_lload_n dX9_meanRetainedBits_93 1 rfl ?_
        obtain ⟨r3, h3, h⟩ := hb_bind h
        refine hs_callSi (μ' := mX9_bits) (mc := 0) (ms := 0) (rc := 0) (rs := 0) (As := [.long x2]) (rest := [.double (FP.l2d x4)]) dX9_meanRetainedBits_94 lmX9_211 okX9_bits rfl (by decide) rfl (Nat.le_of_ble_eq_true rfl) (c_X9_bits h3) ?_
        refine hs_i2d dX9_meanRetainedBits_97 ?_
        by_cases hc4 : (FP.ddiv (FP.l2d x4) (FP.i2d r3.1)) &&& 0x7fffffffffffffff ≤ 0x7ff0000000000000
        · rw [if_neg (fun h9 => h9 hc4)] at h
          refine hs_ddiv dX9_meanRetainedBits_98 hc4 ?_
          refine hs_sub (lv' := []) [] rfl ?_
          exact c_X9_meanRetainedBits_b99 h
        · rw [if_pos hc4] at h
          cases h
      · rw [if_pos hc2] at h
        refine hs_dconst0 dX9_meanRetainedBits_86 ?_
        refine hs_goto (tgt := 99) dX9_meanRetainedBits_87 (by decide) ?_
        refine hs_sub (lv' := []) [] rfl ?_
        exact c_X9_meanRetainedBits_b99 h
    · rw [if_neg hc1] at h
      refine hs_lload dX9_meanRetainedBits_47 2 rfl ?_
      refine hs_lload_n dX9_meanRetainedBits_49 1 rfl ?_
      refine hs_iload dX9_meanRetainedBits_50 3 rfl ?_
      refine hs_lshr dX9_meanRetainedBits_52 ?_
      refine hs_lconst (v := (1 : Int64)) dX9_meanRetainedBits_53 (by decide) ?_
      refine hs_land dX9_meanRetainedBits_54 ?_
      refine hs_lconst (v := (1 : Int64)) dX9_meanRetainedBits_55 (by decide) ?_
      refine hs_lcmp dX9_meanRetainedBits_56 ?_
      refine hs_if_ne (tgt := 70) dX9_meanRetainedBits_57 (by decide) (fun hc5 => ?_) (fun hc5 => ?_)
      · rw [if_neg hc5] at h
        refine hs_lconst (v := (0 : Int64)) dX9_meanRetainedBits_70 (by decide) ?_
        refine hs_sub (lv' := [(0, .ref x0), (2, .long x2), (6, .int x6)]) [0, 1, 3] rfl ?_
        exact c_X9_meanRetainedBits_b71 (f_X9_meanRetainedBits_b40 n) ih h
      · rw [if_pos hc5] at h
        refine hs_aload_n dX9_meanRetainedBits_60 0 rfl ?_
        refine hs_iload dX9_meanRetainedBits_61 3 rfl ?_
        obtain ⟨r6, h6, h⟩ := hb_bind h
        obtain ⟨h6, nf6, hb6⟩ := hb_on_at h6
        refine hs_callVi (μ' := mX9_retainedBy) (mc := 0) (ms := 0) (rc := 0) (rs := 0) (As := [.int x6]) (rest := [.long x4]) (ci := 9) dX9_meanRetainedBits_63 lmX9_208 okX9_retainedBy rfl (by decide) rfl (Nat.le_of_ble_eq_true rfl) rfl hb6 (c_X9_retainedBy h6) ?_
        refine hs_i2l dX9_meanRetainedBits_66 ?_
        refine hs_goto (tgt := 71) dX9_meanRetainedBits_67 (by decide) ?_
        refine hs_sub (lv' := [(0, .ref x0), (2, .long x2), (6, .int x6)]) [0, 1, 3] rfl ?_
        exact c_X9_meanRetainedBits_b71 (f_X9_meanRetainedBits_b40 n) ih h
set_option maxHeartbeats 4000000 in
set_option maxRecDepth 20000 in
theorem c_X9_meanRetainedBits {G : hb_G} {l : Launch} {z : Bool} {x0 : Nat} {x1 : Int32} {σ : hb_M} {r : (Int64 × hb_M)} (h : f_X9_meanRetainedBits x0 x1 σ = some r) : hb_Call G l z 5 0 0 mX9_meanRetainedBits [.ref x0, .int x1] σ (.inl (some (.long r.1)), r.2) := by
  refine hb_met (by decide) (Nat.le_of_ble_eq_true rfl) ?_
  unfold f_X9_meanRetainedBits at h
  refine hs_aload_n dX9_meanRetainedBits_0 0 rfl ?_
  refine hs_aload_n dX9_meanRetainedBits_1 0 rfl ?_
  refine hs_aload_n dX9_meanRetainedBits_2 0 rfl ?_
  refine hs_iload_n dX9_meanRetainedBits_3 1 rfl ?_
  obtain ⟨r1, h1, h⟩ := hb_bind h
  obtain ⟨h1, nf1, hb1⟩ := hb_on_at h1
  refine hs_callVi (μ' := mX9_isGroup) (mc := 0) (ms := 0) (rc := 0) (rs := 0) (As := [.int x1]) (rest := [.ref x0, .ref x0]) (ci := 9) dX9_meanRetainedBits_4 lmX9_221 okX9_isGroup rfl (by decide) rfl (Nat.le_of_ble_eq_true rfl) rfl hb1 (c_X9_isGroup h1) ?_
  obtain ⟨r2, h2, h⟩ := hb_bind h
  obtain ⟨h2, nf2, hb2⟩ := hb_on_at h2
  refine hs_callVi (μ' := mX9_need) (mc := 0) (ms := 0) (rc := 0) (rs := 0) (As := [.int r1.1]) (rest := [.ref x0]) (ci := 9) dX9_meanRetainedBits_7 lmX9_187 okX9_need rfl (by decide) rfl (Nat.le_of_ble_eq_true rfl) rfl hb2 (c_X9_need h2) ?_
  obtain ⟨r3, h3, h⟩ := hb_bind h
  obtain ⟨h3, nf3, hb3⟩ := hb_on_at h3
  refine hs_callVi (μ' := mX9_refused) (mc := 0) (ms := 0) (rc := 0) (rs := 0) (As := [.int r2.1]) (rest := []) (ci := 9) dX9_meanRetainedBits_10 lmX9_74 okX9_refused rfl (by decide) rfl (Nat.le_of_ble_eq_true rfl) rfl hb3 (c_X9_refused h3) ?_
  refine hs_if_eq (tgt := 18) dX9_meanRetainedBits_13 (by decide) (fun hc4 => ?_) (fun hc4 => ?_)
  · rw [if_pos hc4] at h
    refine hs_aload_n dX9_meanRetainedBits_18 0 rfl ?_
    obtain ⟨r5, h5, h⟩ := hb_bind h
    obtain ⟨h5, nf5, hb5⟩ := hb_on_at h5
    refine hs_callVv (μ' := mX9_laysRetained) (mc := 0) (ms := 0) (rc := 0) (rs := 0) (As := []) (rest := []) (ci := 9) dX9_meanRetainedBits_19 lmX9_198 okX9_laysRetained rfl (by decide) rfl (Nat.le_of_ble_eq_true rfl) rfl hb5 (c_X9_laysRetained h5) ?_
    refine hs_aload_n dX9_meanRetainedBits_22 0 rfl ?_
    refine hs_iload_n dX9_meanRetainedBits_23 1 rfl ?_
    refine hs_iconst (v := (0 : Int32)) dX9_meanRetainedBits_24 (by decide) ?_
    obtain ⟨r6, h6, h⟩ := hb_bind h
    obtain ⟨h6, nf6, hb6⟩ := hb_on_at h6
    refine hs_callVl (μ' := mX9_groupSet) (mc := 0) (ms := 0) (rc := 0) (rs := 0) (As := [.int x1, .int (0 : Int32)]) (rest := []) (ci := 9) dX9_meanRetainedBits_25 lmX9_224 okX9_groupSet rfl (by decide) rfl (Nat.le_of_ble_eq_true rfl) rfl hb6 (c_X9_groupSet h6) ?_
    refine hs_aload_n dX9_meanRetainedBits_28 0 rfl ?_
    obtain ⟨r7, h7, h⟩ := hb_bind h
    refine hs_getL dX9_meanRetainedBits_29 lkX9_178 rfl h7 ?_
    refine hs_land dX9_meanRetainedBits_32 ?_
    refine hs_lstore_n (lv' := [(2, .long (r6.1 &&& r7)), (0, .ref x0), (1, .int x1)]) dX9_meanRetainedBits_33 (by decide) rfl ?_
    refine hs_lconst (v := (0 : Int64)) dX9_meanRetainedBits_34 (by decide) ?_
    refine hs_lstore (lv' := [(4, .long (0 : Int64)), (2, .long (r6.1 &&& r7)), (0, .ref x0), (1, .int x1)]) dX9_meanRetainedBits_35 (by decide) rfl ?_
    refine hs_iconst (v := (0 : Int32)) dX9_meanRetainedBits_37 (by decide) ?_
    refine hs_istore (lv' := [(6, .int (0 : Int32)), (4, .long (0 : Int64)), (2, .long (r6.1 &&& r7)), (0, .ref x0), (1, .int x1)]) dX9_meanRetainedBits_38 (by decide) rfl ?_
    refine hs_sub (lv' := [(0, .ref x0), (2, .long (r6.1 &&& r7)), (4, .long (0 : Int64)), (6, .int (0 : Int32))]) [3, 2, 1, 0] rfl ?_
    exact c_X9_meanRetainedBits_b40 hb_FU _ _ _ _ _ _ h
  · rw [if_neg hc4] at h
    refine hs_lconst (v := (0 : Int64)) dX9_meanRetainedBits_16 (by decide) ?_
    obtain rfl := Option.some.inj h
    exact hs_lreturn dX9_meanRetainedBits_17 rfl (fun _ => rfl)
def mJxf58ca_isNaN_12338 : hb_Y := (yJxf58ca_isNaN_12338, cJxf58ca_isNaN_12338, 1, (some .boolean), [], false)
theorem okJxf58ca_isNaN_12338 : hb_okS mJxf58ca_isNaN_12338 1 := ⟨⟨hb_w 23 (by decide +kernel) (by decide +kernel), hb_w 1736 (by decide +kernel) (by decide +kernel), ⟨by decide +kernel, by decide +kernel, by decide +kernel⟩, by decide⟩, hb_w 1735 (by decide +kernel) (by decide +kernel)⟩
set_option maxHeartbeats 4000000 in
set_option maxRecDepth 20000 in
theorem c_Jxf58ca_isNaN_12338 {G : hb_G} {l : Launch} {z : Bool} {x0 : UInt32} {σ : hb_M} {r : (Int32 × hb_M)} (h : f_Jxf58ca_isNaN_12338 x0 σ = some r) : hb_Call G l z 0 0 0 mJxf58ca_isNaN_12338 [.float x0] σ (.inl (some (.int r.1)), r.2) := by
  refine hb_metF (by decide +kernel) (Nat.le_of_ble_eq_true rfl) ?_
  unfold f_Jxf58ca_isNaN_12338 at h
  refine hs_fload_n dJxf58ca_isNaN_12338_0 0 rfl ?_
  refine hs_fload_n dJxf58ca_isNaN_12338_1 0 rfl ?_
  refine hs_fcmp dJxf58ca_isNaN_12338_2 ?_
  refine hs_if_eq (tgt := 10) dJxf58ca_isNaN_12338_3 (by decide) (fun hc1 => ?_) (fun hc1 => ?_)
  · rw [if_pos hc1] at h
    refine hs_iconst (v := (0 : Int32)) dJxf58ca_isNaN_12338_10 (by decide) ?_
    obtain rfl := Option.some.inj h
    exact hs_ireturn dJxf58ca_isNaN_12338_11 rfl (by decide) (fun _ => rfl)
  · rw [if_neg hc1] at h
    refine hs_iconst (v := (1 : Int32)) dJxf58ca_isNaN_12338_6 (by decide) ?_
    refine hs_goto (tgt := 11) dJxf58ca_isNaN_12338_7 (by decide) ?_
    obtain rfl := Option.some.inj h
    exact hs_ireturn dJxf58ca_isNaN_12338_11 rfl (by decide) (fun _ => rfl)
def mJxf58ca_floatToIntBits_5c35a : hb_Y := (yJxf58ca_floatToIntBits_5c35a, cJxf58ca_floatToIntBits_5c35a, 1, (some .int), [], false)
theorem okJxf58ca_floatToIntBits_5c35a : hb_okS mJxf58ca_floatToIntBits_5c35a 1 := ⟨⟨hb_w 23 (by decide +kernel) (by decide +kernel), hb_w 1733 (by decide +kernel) (by decide +kernel), ⟨by decide +kernel, by decide +kernel, by decide +kernel⟩, by decide⟩, hb_w 1732 (by decide +kernel) (by decide +kernel)⟩
set_option maxHeartbeats 4000000 in
set_option maxRecDepth 20000 in
theorem c_Jxf58ca_floatToIntBits_5c35a {G : hb_G} {l : Launch} {z : Bool} {x0 : UInt32} {σ : hb_M} {r : (Int32 × hb_M)} (h : f_Jxf58ca_floatToIntBits_5c35a x0 σ = some r) : hb_Call G l z 1 0 0 mJxf58ca_floatToIntBits_5c35a [.float x0] σ (.inl (some (.int r.1)), r.2) := by
  refine hb_metF (by decide +kernel) (Nat.le_of_ble_eq_true rfl) ?_
  unfold f_Jxf58ca_floatToIntBits_5c35a at h
  refine hs_fload_n dJxf58ca_floatToIntBits_5c35a_0 0 rfl ?_
  obtain ⟨r1, h1, h⟩ := hb_bind h
  refine hs_callSi (μ' := mJxf58ca_isNaN_12338) (mc := 0) (ms := 0) (rc := 0) (rs := 0) (As := [.float x0]) (rest := []) dJxf58ca_floatToIntBits_5c35a_1 lmJxf58ca_59 okJxf58ca_isNaN_12338 rfl (by decide) rfl (Nat.le_of_ble_eq_true rfl) (c_Jxf58ca_isNaN_12338 h1) ?_
  refine hs_if_ne (tgt := 12) dJxf58ca_floatToIntBits_5c35a_4 (by decide) (fun hc2 => ?_) (fun hc2 => ?_)
  · rw [if_neg hc2] at h
    refine hs_ldc (v := (2143289344 : Int32)) dJxf58ca_floatToIntBits_5c35a_12 wd_1740 ?_
    obtain rfl := Option.some.inj h
    exact hs_ireturn dJxf58ca_floatToIntBits_5c35a_14 rfl (by rfl) (fun _ => rfl)
  · rw [if_pos hc2] at h
    refine hs_fload_n dJxf58ca_floatToIntBits_5c35a_7 0 rfl ?_
    refine hs_f2i dJxf58ca_floatToIntBits_5c35a_8 wd_1737 wd_1739 wd_1738 wd_23 (Nat.le_of_ble_eq_true rfl) ?_
    obtain rfl := Option.some.inj h
    exact hs_ireturn dJxf58ca_floatToIntBits_5c35a_11 rfl (by rfl) (fun _ => rfl)
def mX9_shareBits : hb_Y := (yX9_shareBits, cX9_shareBits, 2, (some .int), [], false)
set_option maxHeartbeats 4000000 in
set_option maxRecDepth 20000 in
theorem c_X9_shareBits_b50 {G : hb_G} {l : Launch} {z : Bool}  {s0 : UInt32} {σ : hb_M} {r : (Int32 × hb_M)} (h : f_X9_shareBits_b50 s0 σ = some r) : hb_T G l z mX9_shareBits 5 0 0 50 [] [.float s0] σ (.inl (some (.int r.1)), r.2) := by
  unfold f_X9_shareBits_b50 at h
  obtain ⟨r1, h1, h⟩ := hb_bind h
  refine hs_callSi (μ' := mJxf58ca_floatToIntBits_5c35a) (mc := 0) (ms := 0) (rc := 0) (rs := 0) (As := [.float s0]) (rest := []) dX9_shareBits_50 lmX9_234 okJxf58ca_floatToIntBits_5c35a rfl (by decide) rfl (Nat.le_of_ble_eq_true rfl) (c_Jxf58ca_floatToIntBits_5c35a h1) ?_
  obtain rfl := Option.some.inj h
  exact hs_ireturn dX9_shareBits_53 rfl (by rfl) (fun _ => rfl)
set_option maxHeartbeats 4000000 in
set_option maxRecDepth 20000 in
theorem c_X9_shareBits {G : hb_G} {l : Launch} {z : Bool} {x0 : Nat} {x1 : Int32} {σ : hb_M} {r : (Int32 × hb_M)} (h : f_X9_shareBits x0 x1 σ = some r) : hb_Call G l z 5 0 0 mX9_shareBits [.ref x0, .int x1] σ (.inl (some (.int r.1)), r.2) := by
  refine hb_met (by decide) (Nat.le_of_ble_eq_true rfl) ?_
  unfold f_X9_shareBits at h
  refine hs_aload_n dX9_shareBits_0 0 rfl ?_
  refine hs_aload_n dX9_shareBits_1 0 rfl ?_
  refine hs_aload_n dX9_shareBits_2 0 rfl ?_
  refine hs_iload_n dX9_shareBits_3 1 rfl ?_
  obtain ⟨r1, h1, h⟩ := hb_bind h
  obtain ⟨h1, nf1, hb1⟩ := hb_on_at h1
  refine hs_callVi (μ' := mX9_isObject) (mc := 0) (ms := 0) (rc := 0) (rs := 0) (As := [.int x1]) (rest := [.ref x0, .ref x0]) (ci := 9) dX9_shareBits_4 lmX9_106 okX9_isObject rfl (by decide) rfl (Nat.le_of_ble_eq_true rfl) rfl hb1 (c_X9_isObject h1) ?_
  obtain ⟨r2, h2, h⟩ := hb_bind h
  obtain ⟨h2, nf2, hb2⟩ := hb_on_at h2
  refine hs_callVi (μ' := mX9_need) (mc := 0) (ms := 0) (rc := 0) (rs := 0) (As := [.int r1.1]) (rest := [.ref x0]) (ci := 9) dX9_shareBits_7 lmX9_187 okX9_need rfl (by decide) rfl (Nat.le_of_ble_eq_true rfl) rfl hb2 (c_X9_need h2) ?_
  obtain ⟨r3, h3, h⟩ := hb_bind h
  obtain ⟨h3, nf3, hb3⟩ := hb_on_at h3
  refine hs_callVi (μ' := mX9_refused) (mc := 0) (ms := 0) (rc := 0) (rs := 0) (As := [.int r2.1]) (rest := []) (ci := 9) dX9_shareBits_10 lmX9_74 okX9_refused rfl (by decide) rfl (Nat.le_of_ble_eq_true rfl) rfl hb3 (c_X9_refused h3) ?_
  refine hs_if_eq (tgt := 18) dX9_shareBits_13 (by decide) (fun hc4 => ?_) (fun hc4 => ?_)
  · rw [if_pos hc4] at h
    refine hs_aload_n dX9_shareBits_18 0 rfl ?_
    obtain ⟨r5, h5, h⟩ := hb_bind h
    obtain ⟨h5, nf5, hb5⟩ := hb_on_at h5
    refine hs_callVv (μ' := mX9_laysRetained) (mc := 0) (ms := 0) (rc := 0) (rs := 0) (As := []) (rest := []) (ci := 9) dX9_shareBits_19 lmX9_198 okX9_laysRetained rfl (by decide) rfl (Nat.le_of_ble_eq_true rfl) rfl hb5 (c_X9_laysRetained h5) ?_
    refine hs_aload_n dX9_shareBits_22 0 rfl ?_
    refine hs_iload_n dX9_shareBits_23 1 rfl ?_
    obtain ⟨r6, h6, h⟩ := hb_bind h
    obtain ⟨h6, nf6, hb6⟩ := hb_on_at h6
    refine hs_callVi (μ' := mX9_isReached) (mc := 0) (ms := 0) (rc := 0) (rs := 0) (As := [.int x1]) (rest := []) (ci := 9) dX9_shareBits_24 lmX9_181 okX9_isReached rfl (by decide) rfl (Nat.le_of_ble_eq_true rfl) rfl hb6 (c_X9_isReached h6) ?_
    refine hs_if_eq (tgt := 49) dX9_shareBits_27 (by decide) (fun hc7 => ?_) (fun hc7 => ?_)
    · rw [if_pos hc7] at h
      refine hs_fconst0 dX9_shareBits_49 ?_
      refine hs_sub (lv' := []) [] rfl ?_
      exact c_X9_shareBits_b50 h
    · rw [if_neg hc7] at h
      refine hs_aload_n dX9_shareBits_30 0 rfl ?_
      refine hs_iload_n dX9_shareBits_31 1 rfl ?_
      obtain ⟨r8, h8, h⟩ := hb_bind h
      obtain ⟨h8, nf8, hb8⟩ := hb_on_at h8
      refine hs_callVi (μ' := mX9_retainedBy) (mc := 0) (ms := 0) (rc := 0) (rs := 0) (As := [.int x1]) (rest := []) (ci := 9) dX9_shareBits_32 lmX9_208 okX9_retainedBy rfl (by decide) rfl (Nat.le_of_ble_eq_true rfl) rfl hb8 (c_X9_retainedBy h8) ?_
      refine hs_i2f dX9_shareBits_35 ?_
      refine hs_aload_n dX9_shareBits_36 0 rfl ?_
      refine hs_aload_n dX9_shareBits_37 0 rfl ?_
      obtain ⟨r9, h9, h⟩ := hb_bind h
      refine hs_getL dX9_shareBits_38 lkX9_178 rfl h9 ?_
      obtain ⟨r10, h10, h⟩ := hb_bind h
      obtain ⟨h10, nf10, hb10⟩ := hb_on_at h10
      refine hs_callVl (μ' := mX9_sizes) (mc := 0) (ms := 0) (rc := 0) (rs := 0) (As := [.long r9]) (rest := [.float (FP.i2f r8.1)]) (ci := 9) dX9_shareBits_41 lmX9_204 okX9_sizes rfl (by decide) rfl (Nat.le_of_ble_eq_true rfl) rfl hb10 (c_X9_sizes h10) ?_
      refine hs_l2f dX9_shareBits_44 ?_
      by_cases hc11 : (FP.fdiv (FP.i2f r8.1) (FP.l2f r10.1)) &&& 0x7fffffff ≤ 0x7f800000
      · rw [if_neg (fun h9 => h9 hc11)] at h
        refine hs_fdiv dX9_shareBits_45 hc11 ?_
        refine hs_goto (tgt := 50) dX9_shareBits_46 (by decide) ?_
        refine hs_sub (lv' := []) [] rfl ?_
        exact c_X9_shareBits_b50 h
      · rw [if_pos hc11] at h
        cases h
  · rw [if_neg hc4] at h
    refine hs_iconst (v := (0 : Int32)) dX9_shareBits_16 (by decide) ?_
    obtain rfl := Option.some.inj h
    exact hs_ireturn dX9_shareBits_17 rfl (by rfl) (fun _ => rfl)
def mX9_isHeavy : hb_Y := (yX9_isHeavy, cX9_isHeavy, 3, (some .boolean), [], false)
theorem okX9_isHeavy : hb_okV mX9_isHeavy 2 := ⟨⟨hb_w 11 (by decide +kernel) (by decide +kernel), hb_w 1752 (by decide +kernel) (by decide +kernel), ⟨by decide +kernel, by decide +kernel, by decide +kernel⟩, by decide⟩, hb_w 1751 (by decide +kernel) (by decide +kernel), hb_wp (q := (yX9_isHeavy, 29)) 73 (by decide +kernel) (by decide +kernel)⟩
set_option maxHeartbeats 4000000 in
set_option maxRecDepth 20000 in
theorem c_X9_isHeavy {G : hb_G} {l : Launch} {z : Bool} {x0 : Nat} {x1 : Int32} {x2 : Int32} {σ : hb_M} {r : (Int32 × hb_M)} (h : f_X9_isHeavy x0 x1 x2 σ = some r) : hb_Call G l z 5 0 0 mX9_isHeavy [.ref x0, .int x1, .int x2] σ (.inl (some (.int r.1)), r.2) := by
  refine hb_met (by decide) (Nat.le_of_ble_eq_true rfl) ?_
  unfold f_X9_isHeavy at h
  refine hs_aload_n dX9_isHeavy_0 0 rfl ?_
  refine hs_iload_n dX9_isHeavy_1 1 rfl ?_
  obtain ⟨r1, h1, h⟩ := hb_bind h
  obtain ⟨h1, nf1, hb1⟩ := hb_on_at h1
  refine hs_callVi (μ' := mX9_isReached) (mc := 0) (ms := 0) (rc := 0) (rs := 0) (As := [.int x1]) (rest := []) (ci := 9) dX9_isHeavy_2 lmX9_181 okX9_isReached rfl (by decide) rfl (Nat.le_of_ble_eq_true rfl) rfl hb1 (c_X9_isReached h1) ?_
  refine hs_if_eq (tgt := 37) dX9_isHeavy_5 (by decide) (fun hc2 => ?_) (fun hc2 => ?_)
  · rw [if_pos hc2] at h
    refine hs_iconst (v := (0 : Int32)) dX9_isHeavy_37 (by decide) ?_
    obtain rfl := Option.some.inj h
    exact hs_ireturn dX9_isHeavy_38 rfl (by decide) (fun _ => rfl)
  · rw [if_neg hc2] at h
    refine hs_aload_n dX9_isHeavy_8 0 rfl ?_
    refine hs_iload_n dX9_isHeavy_9 1 rfl ?_
    obtain ⟨r3, h3, h⟩ := hb_bind h
    obtain ⟨h3, nf3, hb3⟩ := hb_on_at h3
    refine hs_callVi (μ' := mX9_retainedBy) (mc := 0) (ms := 0) (rc := 0) (rs := 0) (As := [.int x1]) (rest := []) (ci := 9) dX9_isHeavy_10 lmX9_208 okX9_retainedBy rfl (by decide) rfl (Nat.le_of_ble_eq_true rfl) rfl hb3 (c_X9_retainedBy h3) ?_
    refine hs_i2l dX9_isHeavy_13 ?_
    refine hs_ldc2 (v := (100 : Int64)) dX9_isHeavy_14 wd_1753 ?_
    refine hs_lmul dX9_isHeavy_17 ?_
    refine hs_iload_n dX9_isHeavy_18 2 rfl ?_
    refine hs_i2l dX9_isHeavy_19 ?_
    refine hs_aload_n dX9_isHeavy_20 0 rfl ?_
    refine hs_aload_n dX9_isHeavy_21 0 rfl ?_
    obtain ⟨r4, h4, h⟩ := hb_bind h
    refine hs_getL dX9_isHeavy_22 lkX9_178 rfl h4 ?_
    obtain ⟨r5, h5, h⟩ := hb_bind h
    obtain ⟨h5, nf5, hb5⟩ := hb_on_at h5
    refine hs_callVl (μ' := mX9_sizes) (mc := 0) (ms := 0) (rc := 0) (rs := 0) (As := [.long r4]) (rest := [.long x2.toInt64, .long (r3.1.toInt64 * (100 : Int64))]) (ci := 9) dX9_isHeavy_25 lmX9_204 okX9_sizes rfl (by decide) rfl (Nat.le_of_ble_eq_true rfl) rfl hb5 (c_X9_sizes h5) ?_
    refine hs_lmul dX9_isHeavy_28 ?_
    refine hs_lcmp dX9_isHeavy_29 ?_
    refine hs_if_lt (tgt := 37) dX9_isHeavy_30 (by decide) (fun hc6 => ?_) (fun hc6 => ?_)
    · rw [if_pos hc6] at h
      refine hs_iconst (v := (0 : Int32)) dX9_isHeavy_37 (by decide) ?_
      obtain rfl := Option.some.inj h
      exact hs_ireturn dX9_isHeavy_38 rfl (by decide) (fun _ => rfl)
    · rw [if_neg hc6] at h
      refine hs_iconst (v := (1 : Int32)) dX9_isHeavy_33 (by decide) ?_
      refine hs_goto (tgt := 38) dX9_isHeavy_34 (by decide) ?_
      obtain rfl := Option.some.inj h
      exact hs_ireturn dX9_isHeavy_38 rfl (by decide) (fun _ => rfl)
def mX9_isSuspect : hb_Y := (yX9_isSuspect, cX9_isSuspect, 5, (some .boolean), [], false)
theorem okX9_isSuspect : hb_okV mX9_isSuspect 2 := ⟨⟨hb_w 11 (by decide +kernel) (by decide +kernel), hb_w 1748 (by decide +kernel) (by decide +kernel), ⟨by decide +kernel, by decide +kernel, by decide +kernel⟩, by decide⟩, hb_w 1747 (by decide +kernel) (by decide +kernel), hb_wp (q := (yX9_isSuspect, 29)) 72 (by decide +kernel) (by decide +kernel)⟩
set_option maxHeartbeats 4000000 in
set_option maxRecDepth 20000 in
theorem c_X9_isSuspect_b55 {G : hb_G} {l : Launch} {z : Bool}  (k10 : Nat → Int32 → Int32 → Int32 → Int32 → hb_M → Option (Int32 × hb_M)) (hk10 : ∀ (x0 : Nat) (x1 : Int32) (x2 : Int32) (x3 : Int32) (x4 : Int32) (σ : hb_M) (r : (Int32 × hb_M)), k10 x0 x1 x2 x3 x4 σ = some r → hb_T G l z mX9_isSuspect 6 0 0 10 [(0, .ref x0), (1, .int x1), (2, .int x2), (3, .int x3), (4, .int x4)] [] σ (.inl (some (.int r.1)), r.2))  {x0 : Nat} {x1 : Int32} {x2 : Int32} {x4 : Int32} {s0 : Int32} {σ : hb_M} {r : (Int32 × hb_M)} (h : f_X9_isSuspect_b55 k10 x0 x1 x2 x4 s0 σ = some r) : hb_T G l z mX9_isSuspect 6 0 0 55 [(0, .ref x0), (1, .int x1), (2, .int x2), (4, .int x4)] [.int s0] σ (.inl (some (.int r.1)), r.2) := by
  unfold f_X9_isSuspect_b55 at h
  refine hs_istore_n (lv' := [(3, .int s0), (0, .ref x0), (1, .int x1), (2, .int x2), (4, .int x4)]) dX9_isSuspect_55 (by decide) rfl ?_
  refine hs_iinc2 (k := (1 : Int32)) (lv' := [(4, .int (x4 + (1 : Int32))), (3, .int s0), (0, .ref x0), (1, .int x1), (2, .int x2)]) dX9_isSuspect_56 (by decide) 4 rfl (by decide) rfl ?_
  refine hs_goto (tgt := 10) dX9_isSuspect_59 (by decide) ?_
  refine hs_sub (lv' := [(0, .ref x0), (1, .int x1), (2, .int x2), (3, .int s0), (4, .int (x4 + (1 : Int32)))]) [2, 3, 4, 1, 0] rfl ?_
  exact hk10 _ _ _ _ _ _ _ h
set_option maxHeartbeats 4000000 in
set_option maxRecDepth 20000 in
theorem c_X9_isSuspect_b50 {G : hb_G} {l : Launch} {z : Bool}  (k10 : Nat → Int32 → Int32 → Int32 → Int32 → hb_M → Option (Int32 × hb_M)) (hk10 : ∀ (x0 : Nat) (x1 : Int32) (x2 : Int32) (x3 : Int32) (x4 : Int32) (σ : hb_M) (r : (Int32 × hb_M)), k10 x0 x1 x2 x3 x4 σ = some r → hb_T G l z mX9_isSuspect 6 0 0 10 [(0, .ref x0), (1, .int x1), (2, .int x2), (3, .int x3), (4, .int x4)] [] σ (.inl (some (.int r.1)), r.2))  {x0 : Nat} {x1 : Int32} {x2 : Int32} {x4 : Int32} {σ : hb_M} {r : (Int32 × hb_M)} (h : f_X9_isSuspect_b50 k10 x0 x1 x2 x4 σ = some r) : hb_T G l z mX9_isSuspect 6 0 0 50 [(0, .ref x0), (1, .int x1), (2, .int x2), (4, .int x4)] [] σ (.inl (some (.int r.1)), r.2) := by
  unfold f_X9_isSuspect_b50 at h
  refine hs_iconst (v := (1 : Int32)) dX9_isSuspect_50 (by decide) ?_
  refine hs_goto (tgt := 55) dX9_isSuspect_51 (by decide) ?_
  refine hs_sub (lv' := [(0, .ref x0), (1, .int x1), (2, .int x2), (4, .int x4)]) [0, 1, 2, 3] rfl ?_
  exact c_X9_isSuspect_b55 k10 hk10 h
set_option maxHeartbeats 4000000 in
set_option maxRecDepth 20000 in
theorem c_X9_isSuspect_b10 {G : hb_G} {l : Launch} {z : Bool} : ∀ (n : Nat) (x0 : Nat) (x1 : Int32) (x2 : Int32) (x3 : Int32) (x4 : Int32) (σ : hb_M) (r : (Int32 × hb_M)), f_X9_isSuspect_b10 n x0 x1 x2 x3 x4 σ = some r → hb_T G l z mX9_isSuspect 6 0 0 10 [(0, .ref x0), (1, .int x1), (2, .int x2), (3, .int x3), (4, .int x4)] [] σ (.inl (some (.int r.1)), r.2) := by
  intro n
  induction n with
  | zero =>
    intro x0 x1 x2 x3 x4 σ r h
    cases h
  | succ n ih =>
    intro x0 x1 x2 x3 x4 σ r h
    rw [f_X9_isSuspect_b10] at h
    refine hs_iload dX9_isSuspect_10 4 rfl ?_
    refine hs_bipush (v := (40 : Int32)) dX9_isSuspect_12 (by decide) ?_
    refine hs_icmp_ge (tgt := 62) dX9_isSuspect_14 (by decide) (fun hc1 => ?_) (fun hc1 => ?_)
    · rw [if_pos hc1] at h
      refine hs_iload_n dX9_isSuspect_62 3 rfl ?_
      obtain ⟨rfl, hn⟩ := hb_zr_at h
      exact hs_ireturn dX9_isSuspect_63 rfl hn (fun _ => rfl)
    · rw [if_neg hc1] at h
      refine hs_iload_n dX9_isSuspect_17 3 rfl ?_
      refine hs_if_eq (tgt := 62) dX9_isSuspect_18 (by decide) (fun hc2 => ?_) (fun hc2 => ?_)
      · rw [if_pos hc2] at h
        refine hs_iload_n dX9_isSuspect_62 3 rfl ?_
        obtain ⟨rfl, hn⟩ := hb_zr_at h
        exact hs_ireturn dX9_isSuspect_63 rfl hn (fun _ => rfl)
      · rw [if_neg hc2] at h
        refine hs_aload_n dX9_isSuspect_21 0 rfl ?_
        refine hs_iload dX9_isSuspect_22 4 rfl ?_
        obtain ⟨r3, h3, h⟩ := hb_bind h
        obtain ⟨h3, nf3, hb3⟩ := hb_on_at h3
        refine hs_callVi (μ' := mX9_isReached) (mc := 0) (ms := 0) (rc := 0) (rs := 0) (As := [.int x4]) (rest := []) (ci := 9) dX9_isSuspect_24 lmX9_181 okX9_isReached rfl (by decide) rfl (Nat.le_of_ble_eq_true rfl) rfl hb3 (c_X9_isReached h3) ?_
        refine hs_if_eq (tgt := 50) dX9_isSuspect_27 (by decide) (fun hc4 => ?_) (fun hc4 => ?_)
        · rw [if_pos hc4] at h
          refine hs_sub (lv' := [(0, .ref x0), (1, .int x1), (2, .int x2), (4, .int x4)]) [0, 1, 2, 4] rfl ?_
          exact c_X9_isSuspect_b50 (f_X9_isSuspect_b10 n) ih h
        · rw [if_neg hc4] at h
          refine hs_aload_n dX9_isSuspect_30 0 rfl ?_
          refine hs_iload dX9_isSuspect_31 4 rfl ?_
          obtain ⟨r5, h5, h⟩ := hb_bind h
          obtain ⟨h5, nf5, hb5⟩ := hb_on_at h5
          refine hs_callVi (μ' := mX9_immediate) (mc := 0) (ms := 0) (rc := 0) (rs := 0) (As := [.int x4]) (rest := []) (ci := 9) dX9_isSuspect_33 lmX9_201 okX9_immediate rfl (by decide) rfl (Nat.le_of_ble_eq_true rfl) rfl hb5 (c_X9_immediate h5) ?_
          refine hs_iload_n dX9_isSuspect_36 1 rfl ?_
          refine hs_icmp_ne (tgt := 50) dX9_isSuspect_37 (by decide) (fun hc6 => ?_) (fun hc6 => ?_)
          · rw [if_neg hc6] at h
            refine hs_sub (lv' := [(0, .ref x0), (1, .int x1), (2, .int x2), (4, .int x4)]) [0, 1, 2, 4] rfl ?_
            exact c_X9_isSuspect_b50 (f_X9_isSuspect_b10 n) ih h
          · rw [if_pos hc6] at h
            refine hs_aload_n dX9_isSuspect_40 0 rfl ?_
            refine hs_iload dX9_isSuspect_41 4 rfl ?_
            refine hs_iload_n dX9_isSuspect_43 2 rfl ?_
            obtain ⟨r7, h7, h⟩ := hb_bind h
            obtain ⟨h7, nf7, hb7⟩ := hb_on_at h7
            refine hs_callVi (μ' := mX9_isHeavy) (mc := 0) (ms := 0) (rc := 0) (rs := 0) (As := [.int x4, .int x2]) (rest := []) (ci := 9) dX9_isSuspect_44 lmX9_242 okX9_isHeavy rfl (by decide) rfl (Nat.le_of_ble_eq_true rfl) rfl hb7 (c_X9_isHeavy h7) ?_
            refine hs_if_ne (tgt := 54) dX9_isSuspect_47 (by decide) (fun hc8 => ?_) (fun hc8 => ?_)
            · rw [if_neg hc8] at h
              refine hs_iconst (v := (0 : Int32)) dX9_isSuspect_54 (by decide) ?_
              refine hs_sub (lv' := [(0, .ref x0), (1, .int x1), (2, .int x2), (4, .int x4)]) [0, 1, 2, 4] rfl ?_
              exact c_X9_isSuspect_b55 (f_X9_isSuspect_b10 n) ih h
            · rw [if_pos hc8] at h
              refine hs_sub (lv' := [(0, .ref x0), (1, .int x1), (2, .int x2), (4, .int x4)]) [0, 1, 2, 4] rfl ?_
              exact c_X9_isSuspect_b50 (f_X9_isSuspect_b10 n) ih h
set_option maxHeartbeats 4000000 in
set_option maxRecDepth 20000 in
theorem c_X9_isSuspect {G : hb_G} {l : Launch} {z : Bool} {x0 : Nat} {x1 : Int32} {x2 : Int32} {σ : hb_M} {r : (Int32 × hb_M)} (h : f_X9_isSuspect x0 x1 x2 σ = some r) : hb_Call G l z 6 0 0 mX9_isSuspect [.ref x0, .int x1, .int x2] σ (.inl (some (.int r.1)), r.2) := by
  refine hb_met (by decide) (Nat.le_of_ble_eq_true rfl) ?_
  unfold f_X9_isSuspect at h
  refine hs_aload_n dX9_isSuspect_0 0 rfl ?_
  refine hs_iload_n dX9_isSuspect_1 1 rfl ?_
  refine hs_iload_n dX9_isSuspect_2 2 rfl ?_
  obtain ⟨r1, h1, h⟩ := hb_bind h
  obtain ⟨h1, nf1, hb1⟩ := hb_on_at h1
  refine hs_callVi (μ' := mX9_isHeavy) (mc := 0) (ms := 0) (rc := 0) (rs := 0) (As := [.int x1, .int x2]) (rest := []) (ci := 9) dX9_isSuspect_3 lmX9_242 okX9_isHeavy rfl (by decide) rfl (Nat.le_of_ble_eq_true rfl) rfl hb1 (c_X9_isHeavy h1) ?_
  refine hs_istore_n (lv' := [(3, .int r1.1), (0, .ref x0), (1, .int x1), (2, .int x2)]) dX9_isSuspect_6 (by decide) rfl ?_
  refine hs_iconst (v := (0 : Int32)) dX9_isSuspect_7 (by decide) ?_
  refine hs_istore (lv' := [(4, .int (0 : Int32)), (3, .int r1.1), (0, .ref x0), (1, .int x1), (2, .int x2)]) dX9_isSuspect_8 (by decide) rfl ?_
  refine hs_sub (lv' := [(0, .ref x0), (1, .int x1), (2, .int x2), (3, .int r1.1), (4, .int (0 : Int32))]) [2, 3, 4, 1, 0] rfl ?_
  exact c_X9_isSuspect_b10 hb_FU _ _ _ _ _ _ _ h
def mX9_suspectAt : hb_Y := (yX9_suspectAt, cX9_suspectAt, 7, (some .int), [], false)
set_option maxHeartbeats 4000000 in
set_option maxRecDepth 20000 in
theorem c_X9_suspectAt_b144 {G : hb_G} {l : Launch} {z : Bool}  (k30 : Nat → Int32 → Int32 → Int32 → hb_M → Option (Int32 × hb_M)) (hk30 : ∀ (x0 : Nat) (x1 : Int32) (x2 : Int32) (x3 : Int32) (σ : hb_M) (r : (Int32 × hb_M)), k30 x0 x1 x2 x3 σ = some r → hb_T G l z mX9_suspectAt 7 0 0 30 [(0, .ref x0), (1, .int x1), (2, .int x2), (3, .int x3)] [] σ (.inl (some (.int r.1)), r.2))  {x0 : Nat} {x1 : Int32} {x2 : Int32} {x3 : Int32} {σ : hb_M} {r : (Int32 × hb_M)} (h : f_X9_suspectAt_b144 k30 x0 x1 x2 x3 σ = some r) : hb_T G l z mX9_suspectAt 7 0 0 144 [(0, .ref x0), (1, .int x1), (2, .int x2), (3, .int x3)] [] σ (.inl (some (.int r.1)), r.2) := by
  unfold f_X9_suspectAt_b144 at h
  refine hs_iinc2 (k := (1 : Int32)) (lv' := [(3, .int (x3 + (1 : Int32))), (0, .ref x0), (1, .int x1), (2, .int x2)]) dX9_suspectAt_144 (by decide) 3 rfl (by decide) rfl ?_
  refine hs_goto (tgt := 30) dX9_suspectAt_147 (by decide) ?_
  refine hs_sub (lv' := [(0, .ref x0), (1, .int x1), (2, .int x2), (3, .int (x3 + (1 : Int32)))]) [1, 2, 3, 0] rfl ?_
  exact hk30 _ _ _ _ _ _ h
set_option maxHeartbeats 4000000 in
set_option maxRecDepth 20000 in
theorem c_X9_suspectAt_b127 {G : hb_G} {l : Launch} {z : Bool}  (k30 : Nat → Int32 → Int32 → Int32 → hb_M → Option (Int32 × hb_M)) (hk30 : ∀ (x0 : Nat) (x1 : Int32) (x2 : Int32) (x3 : Int32) (σ : hb_M) (r : (Int32 × hb_M)), k30 x0 x1 x2 x3 σ = some r → hb_T G l z mX9_suspectAt 7 0 0 30 [(0, .ref x0), (1, .int x1), (2, .int x2), (3, .int x3)] [] σ (.inl (some (.int r.1)), r.2)) (k51 : Nat → Int32 → Int32 → Int32 → Int32 → Int32 → hb_M → Option (Int32 × hb_M)) (hk51 : ∀ (x0 : Nat) (x1 : Int32) (x2 : Int32) (x3 : Int32) (x4 : Int32) (x5 : Int32) (σ : hb_M) (r : (Int32 × hb_M)), k51 x0 x1 x2 x3 x4 x5 σ = some r → hb_T G l z mX9_suspectAt 7 0 0 51 [(0, .ref x0), (1, .int x1), (2, .int x2), (3, .int x3), (4, .int x4), (5, .int x5)] [] σ (.inl (some (.int r.1)), r.2))  {x0 : Nat} {x1 : Int32} {x2 : Int32} {x3 : Int32} {x5 : Int32} {s0 : Int32} {s1 : Int32} {σ : hb_M} {r : (Int32 × hb_M)} (h : f_X9_suspectAt_b127 k30 k51 x0 x1 x2 x3 x5 s0 s1 σ = some r) : hb_T G l z mX9_suspectAt 7 0 0 127 [(0, .ref x0), (1, .int x1), (2, .int x2), (3, .int x3), (5, .int x5)] [.int s1, .int s0] σ (.inl (some (.int r.1)), r.2) := by
  unfold f_X9_suspectAt_b127 at h
  refine hs_iadd dX9_suspectAt_127 ?_
  refine hs_istore (lv' := [(4, .int (s0 + s1)), (0, .ref x0), (1, .int x1), (2, .int x2), (3, .int x3), (5, .int x5)]) dX9_suspectAt_128 (by decide) rfl ?_
  refine hs_iinc2 (k := (1 : Int32)) (lv' := [(5, .int (x5 + (1 : Int32))), (4, .int (s0 + s1)), (0, .ref x0), (1, .int x1), (2, .int x2), (3, .int x3)]) dX9_suspectAt_130 (by decide) 5 rfl (by decide) rfl ?_
  refine hs_goto (tgt := 51) dX9_suspectAt_133 (by decide) ?_
  refine hs_sub (lv' := [(0, .ref x0), (1, .int x1), (2, .int x2), (3, .int x3), (4, .int (s0 + s1)), (5, .int (x5 + (1 : Int32)))]) [2, 3, 4, 5, 1, 0] rfl ?_
  exact hk51 _ _ _ _ _ _ _ _ h
set_option maxHeartbeats 4000000 in
set_option maxRecDepth 20000 in
theorem c_X9_suspectAt_b126 {G : hb_G} {l : Launch} {z : Bool}  (k30 : Nat → Int32 → Int32 → Int32 → hb_M → Option (Int32 × hb_M)) (hk30 : ∀ (x0 : Nat) (x1 : Int32) (x2 : Int32) (x3 : Int32) (σ : hb_M) (r : (Int32 × hb_M)), k30 x0 x1 x2 x3 σ = some r → hb_T G l z mX9_suspectAt 7 0 0 30 [(0, .ref x0), (1, .int x1), (2, .int x2), (3, .int x3)] [] σ (.inl (some (.int r.1)), r.2)) (k51 : Nat → Int32 → Int32 → Int32 → Int32 → Int32 → hb_M → Option (Int32 × hb_M)) (hk51 : ∀ (x0 : Nat) (x1 : Int32) (x2 : Int32) (x3 : Int32) (x4 : Int32) (x5 : Int32) (σ : hb_M) (r : (Int32 × hb_M)), k51 x0 x1 x2 x3 x4 x5 σ = some r → hb_T G l z mX9_suspectAt 7 0 0 51 [(0, .ref x0), (1, .int x1), (2, .int x2), (3, .int x3), (4, .int x4), (5, .int x5)] [] σ (.inl (some (.int r.1)), r.2))  {x0 : Nat} {x1 : Int32} {x2 : Int32} {x3 : Int32} {x5 : Int32} {s0 : Int32} {σ : hb_M} {r : (Int32 × hb_M)} (h : f_X9_suspectAt_b126 k30 k51 x0 x1 x2 x3 x5 s0 σ = some r) : hb_T G l z mX9_suspectAt 7 0 0 126 [(0, .ref x0), (1, .int x1), (2, .int x2), (3, .int x3), (5, .int x5)] [.int s0] σ (.inl (some (.int r.1)), r.2) := by
  unfold f_X9_suspectAt_b126 at h
  refine hs_iconst (v := (0 : Int32)) dX9_suspectAt_126 (by decide) ?_
  refine hs_sub (lv' := [(0, .ref x0), (1, .int x1), (2, .int x2), (3, .int x3), (5, .int x5)]) [0, 1, 2, 3, 4] rfl ?_
  exact c_X9_suspectAt_b127 k30 hk30 k51 hk51 h
set_option maxHeartbeats 4000000 in
set_option maxRecDepth 20000 in
theorem c_X9_suspectAt_b97 {G : hb_G} {l : Launch} {z : Bool}  (k30 : Nat → Int32 → Int32 → Int32 → hb_M → Option (Int32 × hb_M)) (hk30 : ∀ (x0 : Nat) (x1 : Int32) (x2 : Int32) (x3 : Int32) (σ : hb_M) (r : (Int32 × hb_M)), k30 x0 x1 x2 x3 σ = some r → hb_T G l z mX9_suspectAt 7 0 0 30 [(0, .ref x0), (1, .int x1), (2, .int x2), (3, .int x3)] [] σ (.inl (some (.int r.1)), r.2)) (k51 : Nat → Int32 → Int32 → Int32 → Int32 → Int32 → hb_M → Option (Int32 × hb_M)) (hk51 : ∀ (x0 : Nat) (x1 : Int32) (x2 : Int32) (x3 : Int32) (x4 : Int32) (x5 : Int32) (σ : hb_M) (r : (Int32 × hb_M)), k51 x0 x1 x2 x3 x4 x5 σ = some r → hb_T G l z mX9_suspectAt 7 0 0 51 [(0, .ref x0), (1, .int x1), (2, .int x2), (3, .int x3), (4, .int x4), (5, .int x5)] [] σ (.inl (some (.int r.1)), r.2))  {x0 : Nat} {x1 : Int32} {x2 : Int32} {x3 : Int32} {x4 : Int32} {x5 : Int32} {s0 : Int32} {σ : hb_M} {r : (Int32 × hb_M)} (h : f_X9_suspectAt_b97 k30 k51 x0 x1 x2 x3 x4 x5 s0 σ = some r) : hb_T G l z mX9_suspectAt 7 0 0 97 [(0, .ref x0), (1, .int x1), (2, .int x2), (3, .int x3), (4, .int x4), (5, .int x5)] [.int s0] σ (.inl (some (.int r.1)), r.2) := by
  unfold f_X9_suspectAt_b97 at h
  refine hs_istore (lv' := [(6, .int s0), (0, .ref x0), (1, .int x1), (2, .int x2), (3, .int x3), (4, .int x4), (5, .int x5)]) dX9_suspectAt_97 (by decide) rfl ?_
  refine hs_iload dX9_suspectAt_99 5 rfl ?_
  refine hs_iload dX9_suspectAt_101 6 rfl ?_
  refine hs_iload_n dX9_suspectAt_103 4 rfl ?_
  refine hs_icmp_eq (tgt := 126) dX9_suspectAt_104 (by decide) (fun hc1 => ?_) (fun hc1 => ?_)
  · rw [if_pos hc1] at h
    refine hs_sub (lv' := [(0, .ref x0), (1, .int x1), (2, .int x2), (3, .int x3), (5, .int x5)]) [1, 2, 3, 4, 6] rfl ?_
    exact c_X9_suspectAt_b126 k30 hk30 k51 hk51 h
  · rw [if_neg hc1] at h
    refine hs_iload dX9_suspectAt_107 0 rfl ?_
    refine hs_if_eq (tgt := 126) dX9_suspectAt_109 (by decide) (fun hc2 => ?_) (fun hc2 => ?_)
    · rw [if_pos hc2] at h
      refine hs_sub (lv' := [(0, .ref x0), (1, .int x1), (2, .int x2), (3, .int x3), (5, .int x5)]) [1, 2, 3, 4, 6] rfl ?_
      exact c_X9_suspectAt_b126 k30 hk30 k51 hk51 h
    · rw [if_neg hc2] at h
      refine hs_aload_n dX9_suspectAt_112 1 rfl ?_
      refine hs_iload dX9_suspectAt_113 6 rfl ?_
      refine hs_iload_n dX9_suspectAt_115 2 rfl ?_
      obtain ⟨r3, h3, h⟩ := hb_bind h
      obtain ⟨h3, nf3, hb3⟩ := hb_on_at h3
      refine hs_callVi (μ' := mX9_isSuspect) (mc := 0) (ms := 0) (rc := 0) (rs := 0) (As := [.int x5, .int x1]) (rest := [.int x4]) (ci := 9) dX9_suspectAt_116 lmX9_245 okX9_isSuspect rfl (by decide) rfl (Nat.le_of_ble_eq_true rfl) rfl hb3 (c_X9_isSuspect h3) ?_
      refine hs_if_eq (tgt := 126) dX9_suspectAt_119 (by decide) (fun hc4 => ?_) (fun hc4 => ?_)
      · rw [if_pos hc4] at h
        refine hs_sub (lv' := [(0, .ref x0), (1, .int x1), (2, .int x2), (3, .int x3), (5, .int x5)]) [1, 2, 3, 4, 6] rfl ?_
        exact c_X9_suspectAt_b126 k30 hk30 k51 hk51 h
      · rw [if_neg hc4] at h
        refine hs_iconst (v := (1 : Int32)) dX9_suspectAt_122 (by decide) ?_
        refine hs_goto (tgt := 127) dX9_suspectAt_123 (by decide) ?_
        refine hs_sub (lv' := [(0, .ref x0), (1, .int x1), (2, .int x2), (3, .int x3), (5, .int x5)]) [1, 2, 3, 4, 6] rfl ?_
        exact c_X9_suspectAt_b127 k30 hk30 k51 hk51 h
set_option maxHeartbeats 4000000 in
set_option maxRecDepth 20000 in
theorem c_X9_suspectAt_b92 {G : hb_G} {l : Launch} {z : Bool}  (k30 : Nat → Int32 → Int32 → Int32 → hb_M → Option (Int32 × hb_M)) (hk30 : ∀ (x0 : Nat) (x1 : Int32) (x2 : Int32) (x3 : Int32) (σ : hb_M) (r : (Int32 × hb_M)), k30 x0 x1 x2 x3 σ = some r → hb_T G l z mX9_suspectAt 7 0 0 30 [(0, .ref x0), (1, .int x1), (2, .int x2), (3, .int x3)] [] σ (.inl (some (.int r.1)), r.2)) (k51 : Nat → Int32 → Int32 → Int32 → Int32 → Int32 → hb_M → Option (Int32 × hb_M)) (hk51 : ∀ (x0 : Nat) (x1 : Int32) (x2 : Int32) (x3 : Int32) (x4 : Int32) (x5 : Int32) (σ : hb_M) (r : (Int32 × hb_M)), k51 x0 x1 x2 x3 x4 x5 σ = some r → hb_T G l z mX9_suspectAt 7 0 0 51 [(0, .ref x0), (1, .int x1), (2, .int x2), (3, .int x3), (4, .int x4), (5, .int x5)] [] σ (.inl (some (.int r.1)), r.2))  {x0 : Nat} {x1 : Int32} {x2 : Int32} {x3 : Int32} {x4 : Int32} {x5 : Int32} {σ : hb_M} {r : (Int32 × hb_M)} (h : f_X9_suspectAt_b92 k30 k51 x0 x1 x2 x3 x4 x5 σ = some r) : hb_T G l z mX9_suspectAt 7 0 0 92 [(0, .ref x0), (1, .int x1), (2, .int x2), (3, .int x3), (4, .int x4), (5, .int x5)] [] σ (.inl (some (.int r.1)), r.2) := by
  unfold f_X9_suspectAt_b92 at h
  refine hs_iconst (v := (1 : Int32)) dX9_suspectAt_92 (by decide) ?_
  refine hs_goto (tgt := 97) dX9_suspectAt_93 (by decide) ?_
  refine hs_sub (lv' := [(0, .ref x0), (1, .int x1), (2, .int x2), (3, .int x3), (4, .int x4), (5, .int x5)]) [0, 1, 2, 3, 4, 5] rfl ?_
  exact c_X9_suspectAt_b97 k30 hk30 k51 hk51 h
set_option maxHeartbeats 4000000 in
set_option maxRecDepth 20000 in
theorem c_X9_suspectAt_b96 {G : hb_G} {l : Launch} {z : Bool}  (k30 : Nat → Int32 → Int32 → Int32 → hb_M → Option (Int32 × hb_M)) (hk30 : ∀ (x0 : Nat) (x1 : Int32) (x2 : Int32) (x3 : Int32) (σ : hb_M) (r : (Int32 × hb_M)), k30 x0 x1 x2 x3 σ = some r → hb_T G l z mX9_suspectAt 7 0 0 30 [(0, .ref x0), (1, .int x1), (2, .int x2), (3, .int x3)] [] σ (.inl (some (.int r.1)), r.2)) (k51 : Nat → Int32 → Int32 → Int32 → Int32 → Int32 → hb_M → Option (Int32 × hb_M)) (hk51 : ∀ (x0 : Nat) (x1 : Int32) (x2 : Int32) (x3 : Int32) (x4 : Int32) (x5 : Int32) (σ : hb_M) (r : (Int32 × hb_M)), k51 x0 x1 x2 x3 x4 x5 σ = some r → hb_T G l z mX9_suspectAt 7 0 0 51 [(0, .ref x0), (1, .int x1), (2, .int x2), (3, .int x3), (4, .int x4), (5, .int x5)] [] σ (.inl (some (.int r.1)), r.2))  {x0 : Nat} {x1 : Int32} {x2 : Int32} {x3 : Int32} {x4 : Int32} {x5 : Int32} {σ : hb_M} {r : (Int32 × hb_M)} (h : f_X9_suspectAt_b96 k30 k51 x0 x1 x2 x3 x4 x5 σ = some r) : hb_T G l z mX9_suspectAt 7 0 0 96 [(0, .ref x0), (1, .int x1), (2, .int x2), (3, .int x3), (4, .int x4), (5, .int x5)] [] σ (.inl (some (.int r.1)), r.2) := by
  unfold f_X9_suspectAt_b96 at h
  refine hs_iconst (v := (0 : Int32)) dX9_suspectAt_96 (by decide) ?_
  refine hs_sub (lv' := [(0, .ref x0), (1, .int x1), (2, .int x2), (3, .int x3), (4, .int x4), (5, .int x5)]) [0, 1, 2, 3, 4, 5] rfl ?_
  exact c_X9_suspectAt_b97 k30 hk30 k51 hk51 h
set_option maxHeartbeats 4000000 in
set_option maxRecDepth 20000 in
theorem c_X9_suspectAt_b51 {G : hb_G} {l : Launch} {z : Bool}  (k30 : Nat → Int32 → Int32 → Int32 → hb_M → Option (Int32 × hb_M)) (hk30 : ∀ (x0 : Nat) (x1 : Int32) (x2 : Int32) (x3 : Int32) (σ : hb_M) (r : (Int32 × hb_M)), k30 x0 x1 x2 x3 σ = some r → hb_T G l z mX9_suspectAt 7 0 0 30 [(0, .ref x0), (1, .int x1), (2, .int x2), (3, .int x3)] [] σ (.inl (some (.int r.1)), r.2)) : ∀ (n : Nat) (x0 : Nat) (x1 : Int32) (x2 : Int32) (x3 : Int32) (x4 : Int32) (x5 : Int32) (σ : hb_M) (r : (Int32 × hb_M)), f_X9_suspectAt_b51 k30 n x0 x1 x2 x3 x4 x5 σ = some r → hb_T G l z mX9_suspectAt 7 0 0 51 [(0, .ref x0), (1, .int x1), (2, .int x2), (3, .int x3), (4, .int x4), (5, .int x5)] [] σ (.inl (some (.int r.1)), r.2) := by
  intro n
  induction n with
  | zero =>
    intro x0 x1 x2 x3 x4 x5 σ r h
    cases h
  | succ n ih =>
    intro x0 x1 x2 x3 x4 x5 σ r h
    rw [f_X9_suspectAt_b51] at h
    refine hs_iload dX9_suspectAt_51 5 rfl ?_
    refine hs_bipush (v := (40 : Int32)) dX9_suspectAt_53 (by decide) ?_
    refine hs_icmp_ge (tgt := 136) dX9_suspectAt_55 (by decide) (fun hc1 => ?_) (fun hc1 => ?_)
    · rw [if_pos hc1] at h
      refine hs_iload dX9_suspectAt_136 4 rfl ?_
      refine hs_iload_n dX9_suspectAt_138 2 rfl ?_
      refine hs_icmp_ne (tgt := 144) dX9_suspectAt_139 (by decide) (fun hc2 => ?_) (fun hc2 => ?_)
      · rw [if_neg hc2] at h
        refine hs_sub (lv' := [(0, .ref x0), (1, .int x1), (2, .int x2), (3, .int x3)]) [0, 1, 2, 3] rfl ?_
        exact c_X9_suspectAt_b144 k30 hk30 h
      · rw [if_pos hc2] at h
        refine hs_iload_n dX9_suspectAt_142 3 rfl ?_
        obtain rfl := Option.some.inj h
        exact hs_ireturn dX9_suspectAt_143 rfl (by rfl) (fun _ => rfl)
    · rw [if_neg hc1] at h
      refine hs_aload_n dX9_suspectAt_58 0 rfl ?_
      refine hs_iload dX9_suspectAt_59 5 rfl ?_
      obtain ⟨r3, h3, h⟩ := hb_bind h
      obtain ⟨h3, nf3, hb3⟩ := hb_on_at h3
      refine hs_callVi (μ' := mX9_retainedBy) (mc := 0) (ms := 0) (rc := 0) (rs := 0) (As := [.int x5]) (rest := []) (ci := 9) dX9_suspectAt_61 lmX9_208 okX9_retainedBy rfl (by decide) rfl (Nat.le_of_ble_eq_true rfl) rfl hb3 (c_X9_retainedBy h3) ?_
      refine hs_aload_n dX9_suspectAt_64 0 rfl ?_
      refine hs_iload_n dX9_suspectAt_65 3 rfl ?_
      obtain ⟨r4, h4, h⟩ := hb_bind h
      obtain ⟨h4, nf4, hb4⟩ := hb_on_at h4
      refine hs_callVi (μ' := mX9_retainedBy) (mc := 0) (ms := 0) (rc := 0) (rs := 0) (As := [.int x3]) (rest := [.int r3.1]) (ci := 9) dX9_suspectAt_66 lmX9_208 okX9_retainedBy rfl (by decide) rfl (Nat.le_of_ble_eq_true rfl) rfl hb4 (c_X9_retainedBy h4) ?_
      refine hs_icmp_gt (tgt := 92) dX9_suspectAt_69 (by decide) (fun hc5 => ?_) (fun hc5 => ?_)
      · rw [if_pos hc5] at h
        refine hs_sub (lv' := [(0, .ref x0), (1, .int x1), (2, .int x2), (3, .int x3), (4, .int x4), (5, .int x5)]) [0, 1, 2, 3, 4, 5] rfl ?_
        exact c_X9_suspectAt_b92 k30 hk30 (f_X9_suspectAt_b51 k30 n) ih h
      · rw [if_neg hc5] at h
        refine hs_aload_n dX9_suspectAt_72 0 rfl ?_
        refine hs_iload dX9_suspectAt_73 5 rfl ?_
        obtain ⟨r6, h6, h⟩ := hb_bind h
        obtain ⟨h6, nf6, hb6⟩ := hb_on_at h6
        refine hs_callVi (μ' := mX9_retainedBy) (mc := 0) (ms := 0) (rc := 0) (rs := 0) (As := [.int x5]) (rest := []) (ci := 9) dX9_suspectAt_75 lmX9_208 okX9_retainedBy rfl (by decide) rfl (Nat.le_of_ble_eq_true rfl) rfl hb6 (c_X9_retainedBy h6) ?_
        refine hs_aload_n dX9_suspectAt_78 0 rfl ?_
        refine hs_iload_n dX9_suspectAt_79 3 rfl ?_
        obtain ⟨r7, h7, h⟩ := hb_bind h
        obtain ⟨h7, nf7, hb7⟩ := hb_on_at h7
        refine hs_callVi (μ' := mX9_retainedBy) (mc := 0) (ms := 0) (rc := 0) (rs := 0) (As := [.int x3]) (rest := [.int r6.1]) (ci := 9) dX9_suspectAt_80 lmX9_208 okX9_retainedBy rfl (by decide) rfl (Nat.le_of_ble_eq_true rfl) rfl hb7 (c_X9_retainedBy h7) ?_
        refine hs_icmp_ne (tgt := 96) dX9_suspectAt_83 (by decide) (fun hc8 => ?_) (fun hc8 => ?_)
        · rw [if_neg hc8] at h
          refine hs_sub (lv' := [(0, .ref x0), (1, .int x1), (2, .int x2), (3, .int x3), (4, .int x4), (5, .int x5)]) [0, 1, 2, 3, 4, 5] rfl ?_
          exact c_X9_suspectAt_b96 k30 hk30 (f_X9_suspectAt_b51 k30 n) ih h
        · rw [if_pos hc8] at h
          refine hs_iload dX9_suspectAt_86 5 rfl ?_
          refine hs_iload_n dX9_suspectAt_88 3 rfl ?_
          refine hs_icmp_ge (tgt := 96) dX9_suspectAt_89 (by decide) (fun hc9 => ?_) (fun hc9 => ?_)
          · rw [if_pos hc9] at h
            refine hs_sub (lv' := [(0, .ref x0), (1, .int x1), (2, .int x2), (3, .int x3), (4, .int x4), (5, .int x5)]) [0, 1, 2, 3, 4, 5] rfl ?_
            exact c_X9_suspectAt_b96 k30 hk30 (f_X9_suspectAt_b51 k30 n) ih h
          · rw [if_neg hc9] at h
            refine hs_sub (lv' := [(0, .ref x0), (1, .int x1), (2, .int x2), (3, .int x3), (4, .int x4), (5, .int x5)]) [0, 1, 2, 3, 4, 5] rfl ?_
            exact c_X9_suspectAt_b92 k30 hk30 (f_X9_suspectAt_b51 k30 n) ih h
set_option maxHeartbeats 4000000 in
set_option maxRecDepth 20000 in
theorem c_X9_suspectAt_b30 {G : hb_G} {l : Launch} {z : Bool} : ∀ (n : Nat) (x0 : Nat) (x1 : Int32) (x2 : Int32) (x3 : Int32) (σ : hb_M) (r : (Int32 × hb_M)), f_X9_suspectAt_b30 n x0 x1 x2 x3 σ = some r → hb_T G l z mX9_suspectAt 7 0 0 30 [(0, .ref x0), (1, .int x1), (2, .int x2), (3, .int x3)] [] σ (.inl (some (.int r.1)), r.2) := by
  intro n
  induction n with
  | zero =>
    intro x0 x1 x2 x3 σ r h
    cases h
  | succ n ih =>
    intro x0 x1 x2 x3 σ r h
    rw [f_X9_suspectAt_b30] at h
    refine hs_iload_n dX9_suspectAt_30 3 rfl ?_
    refine hs_bipush (v := (40 : Int32)) dX9_suspectAt_31 (by decide) ?_
    refine hs_icmp_ge (tgt := 150) dX9_suspectAt_33 (by decide) (fun hc1 => ?_) (fun hc1 => ?_)
    · rw [if_pos hc1] at h
      refine hs_iconst (v := (-1 : Int32)) dX9_suspectAt_150 (by decide) ?_
      obtain rfl := Option.some.inj h
      exact hs_ireturn dX9_suspectAt_151 rfl (by rfl) (fun _ => rfl)
    · rw [if_neg hc1] at h
      refine hs_aload_n dX9_suspectAt_36 0 rfl ?_
      refine hs_iload_n dX9_suspectAt_37 3 rfl ?_
      refine hs_iload_n dX9_suspectAt_38 1 rfl ?_
      obtain ⟨r2, h2, h⟩ := hb_bind h
      obtain ⟨h2, nf2, hb2⟩ := hb_on_at h2
      refine hs_callVi (μ' := mX9_isSuspect) (mc := 0) (ms := 0) (rc := 0) (rs := 0) (As := [.int x3, .int x1]) (rest := []) (ci := 9) dX9_suspectAt_39 lmX9_245 okX9_isSuspect rfl (by decide) rfl (Nat.le_of_ble_eq_true rfl) rfl hb2 (c_X9_isSuspect h2) ?_
      refine hs_if_eq (tgt := 144) dX9_suspectAt_42 (by decide) (fun hc3 => ?_) (fun hc3 => ?_)
      · rw [if_pos hc3] at h
        refine hs_sub (lv' := [(0, .ref x0), (1, .int x1), (2, .int x2), (3, .int x3)]) [0, 1, 2, 3] rfl ?_
        exact c_X9_suspectAt_b144 (f_X9_suspectAt_b30 n) ih h
      · rw [if_neg hc3] at h
        refine hs_iconst (v := (0 : Int32)) dX9_suspectAt_45 (by decide) ?_
        refine hs_istore (lv' := [(4, .int (0 : Int32)), (0, .ref x0), (1, .int x1), (2, .int x2), (3, .int x3)]) dX9_suspectAt_46 (by decide) rfl ?_
        refine hs_iconst (v := (0 : Int32)) dX9_suspectAt_48 (by decide) ?_
        refine hs_istore (lv' := [(5, .int (0 : Int32)), (4, .int (0 : Int32)), (0, .ref x0), (1, .int x1), (2, .int x2), (3, .int x3)]) dX9_suspectAt_49 (by decide) rfl ?_
        refine hs_sub (lv' := [(0, .ref x0), (1, .int x1), (2, .int x2), (3, .int x3), (4, .int (0 : Int32)), (5, .int (0 : Int32))]) [2, 3, 4, 5, 1, 0] rfl ?_
        exact c_X9_suspectAt_b51 (f_X9_suspectAt_b30 n) ih hb_FU _ _ _ _ _ _ _ _ h
set_option maxHeartbeats 4000000 in
set_option maxRecDepth 20000 in
theorem c_X9_suspectAt_b16 {G : hb_G} {l : Launch} {z : Bool}  {x0 : Nat} {x1 : Int32} {x2 : Int32} {s0 : Nat} {s1 : Int32} {σ : hb_M} {r : (Int32 × hb_M)} (h : f_X9_suspectAt_b16 x0 x1 x2 s0 s1 σ = some r) : hb_T G l z mX9_suspectAt 7 0 0 16 [(0, .ref x0), (1, .int x1), (2, .int x2)] [.int s1, .ref s0] σ (.inl (some (.int r.1)), r.2) := by
  unfold f_X9_suspectAt_b16 at h
  obtain ⟨r1, h1, h⟩ := hb_bind h
  obtain ⟨h1, nf1, hb1⟩ := hb_on_at h1
  refine hs_callVi (μ' := mX9_refused) (mc := 0) (ms := 0) (rc := 0) (rs := 0) (As := [.int s1]) (rest := []) (ci := 9) dX9_suspectAt_16 lmX9_74 okX9_refused rfl (by decide) rfl (Nat.le_of_ble_eq_true rfl) rfl hb1 (c_X9_refused h1) ?_
  refine hs_if_eq (tgt := 24) dX9_suspectAt_19 (by decide) (fun hc2 => ?_) (fun hc2 => ?_)
  · rw [if_pos hc2] at h
    refine hs_aload_n dX9_suspectAt_24 0 rfl ?_
    obtain ⟨r3, h3, h⟩ := hb_bind h
    obtain ⟨h3, nf3, hb3⟩ := hb_on_at h3
    refine hs_callVv (μ' := mX9_laysRetained) (mc := 0) (ms := 0) (rc := 0) (rs := 0) (As := []) (rest := []) (ci := 9) dX9_suspectAt_25 lmX9_198 okX9_laysRetained rfl (by decide) rfl (Nat.le_of_ble_eq_true rfl) rfl hb3 (c_X9_laysRetained h3) ?_
    refine hs_iconst (v := (0 : Int32)) dX9_suspectAt_28 (by decide) ?_
    refine hs_istore_n (lv' := [(3, .int (0 : Int32)), (0, .ref x0), (1, .int x1), (2, .int x2)]) dX9_suspectAt_29 (by decide) rfl ?_
    refine hs_sub (lv' := [(0, .ref x0), (1, .int x1), (2, .int x2), (3, .int (0 : Int32))]) [1, 2, 3, 0] rfl ?_
    exact c_X9_suspectAt_b30 hb_FU _ _ _ _ _ _ h
  · rw [if_neg hc2] at h
    refine hs_iconst (v := (0 : Int32)) dX9_suspectAt_22 (by decide) ?_
    obtain rfl := Option.some.inj h
    exact hs_ireturn dX9_suspectAt_23 rfl (by rfl) (fun _ => rfl)
set_option maxHeartbeats 4000000 in
set_option maxRecDepth 20000 in
theorem c_X9_suspectAt {G : hb_G} {l : Launch} {z : Bool} {x0 : Nat} {x1 : Int32} {x2 : Int32} {σ : hb_M} {r : (Int32 × hb_M)} (h : f_X9_suspectAt x0 x1 x2 σ = some r) : hb_Call G l z 7 0 0 mX9_suspectAt [.ref x0, .int x1, .int x2] σ (.inl (some (.int r.1)), r.2) := by
  refine hb_met (by decide) (Nat.le_of_ble_eq_true rfl) ?_
  unfold f_X9_suspectAt at h
  refine hs_aload_n dX9_suspectAt_0 0 rfl ?_
  refine hs_iload_n dX9_suspectAt_1 1 rfl ?_
  refine hs_iconst (v := (1 : Int32)) dX9_suspectAt_2 (by decide) ?_
  refine hs_bipush (v := (100 : Int32)) dX9_suspectAt_3 (by decide) ?_
  obtain ⟨r1, h1, h⟩ := hb_bind h
  refine hs_callSi (μ' := mX9_within) (mc := 0) (ms := 0) (rc := 0) (rs := 0) (As := [.int x1, .int (1 : Int32), .int (100 : Int32)]) (rest := [.ref x0]) dX9_suspectAt_5 lmX9_78 okX9_within rfl (by decide) rfl (Nat.le_of_ble_eq_true rfl) (c_X9_within h1) ?_
  refine hs_if_eq (tgt := 15) dX9_suspectAt_8 (by decide) (fun hc2 => ?_) (fun hc2 => ?_)
  · rw [if_pos hc2] at h
    refine hs_iconst (v := (1 : Int32)) dX9_suspectAt_15 (by decide) ?_
    refine hs_sub (lv' := [(0, .ref x0), (1, .int x1), (2, .int x2)]) [0, 1, 2] rfl ?_
    exact c_X9_suspectAt_b16 h
  · rw [if_neg hc2] at h
    refine hs_iconst (v := (0 : Int32)) dX9_suspectAt_11 (by decide) ?_
    refine hs_goto (tgt := 16) dX9_suspectAt_12 (by decide) ?_
    refine hs_sub (lv' := [(0, .ref x0), (1, .int x1), (2, .int x2)]) [0, 1, 2] rfl ?_
    exact c_X9_suspectAt_b16 h
def mX9_accumulationPoint : hb_Y := (yX9_accumulationPoint, cX9_accumulationPoint, 7, (some .int), [], false)
set_option maxHeartbeats 4000000 in
set_option maxRecDepth 20000 in
theorem c_X9_accumulationPoint_b170 {G : hb_G} {l : Launch} {z : Bool}  (k65 : Nat → Int32 → Int32 → Int32 → hb_M → Option (Int32 × hb_M)) (hk65 : ∀ (x0 : Nat) (x2 : Int32) (x3 : Int32) (x4 : Int32) (σ : hb_M) (r : (Int32 × hb_M)), k65 x0 x2 x3 x4 σ = some r → hb_T G l z mX9_accumulationPoint 5 0 0 65 [(0, .ref x0), (2, .int x2), (3, .int x3), (4, .int x4)] [] σ (.inl (some (.int r.1)), r.2)) (k80 : Nat → Int32 → Int32 → Int32 → Int32 → hb_M → Option (Int32 × hb_M)) (hk80 : ∀ (x0 : Nat) (x2 : Int32) (x3 : Int32) (x4 : Int32) (x5 : Int32) (σ : hb_M) (r : (Int32 × hb_M)), k80 x0 x2 x3 x4 x5 σ = some r → hb_T G l z mX9_accumulationPoint 5 0 0 80 [(0, .ref x0), (2, .int x2), (3, .int x3), (4, .int x4), (5, .int x5)] [] σ (.inl (some (.int r.1)), r.2))  {x0 : Nat} {x2 : Int32} {x3 : Int32} {x5 : Int32} {s0 : Int32} {σ : hb_M} {r : (Int32 × hb_M)} (h : f_X9_accumulationPoint_b170 k65 k80 x0 x2 x3 x5 s0 σ = some r) : hb_T G l z mX9_accumulationPoint 5 0 0 170 [(0, .ref x0), (2, .int x2), (3, .int x3), (5, .int x5)] [.int s0] σ (.inl (some (.int r.1)), r.2) := by
  unfold f_X9_accumulationPoint_b170 at h
  refine hs_istore (lv' := [(4, .int s0), (0, .ref x0), (2, .int x2), (3, .int x3), (5, .int x5)]) dX9_accumulationPoint_170 (by decide) rfl ?_
  refine hs_iinc2 (k := (1 : Int32)) (lv' := [(5, .int (x5 + (1 : Int32))), (4, .int s0), (0, .ref x0), (2, .int x2), (3, .int x3)]) dX9_accumulationPoint_172 (by decide) 4 rfl (by decide) rfl ?_
  refine hs_goto (tgt := 80) dX9_accumulationPoint_175 (by decide) ?_
  refine hs_sub (lv' := [(0, .ref x0), (2, .int x2), (3, .int x3), (4, .int s0), (5, .int (x5 + (1 : Int32)))]) [2, 3, 4, 1, 0] rfl ?_
  exact hk80 _ _ _ _ _ _ _ h
set_option maxHeartbeats 4000000 in
set_option maxRecDepth 20000 in
theorem c_X9_accumulationPoint_b168 {G : hb_G} {l : Launch} {z : Bool}  (k65 : Nat → Int32 → Int32 → Int32 → hb_M → Option (Int32 × hb_M)) (hk65 : ∀ (x0 : Nat) (x2 : Int32) (x3 : Int32) (x4 : Int32) (σ : hb_M) (r : (Int32 × hb_M)), k65 x0 x2 x3 x4 σ = some r → hb_T G l z mX9_accumulationPoint 5 0 0 65 [(0, .ref x0), (2, .int x2), (3, .int x3), (4, .int x4)] [] σ (.inl (some (.int r.1)), r.2)) (k80 : Nat → Int32 → Int32 → Int32 → Int32 → hb_M → Option (Int32 × hb_M)) (hk80 : ∀ (x0 : Nat) (x2 : Int32) (x3 : Int32) (x4 : Int32) (x5 : Int32) (σ : hb_M) (r : (Int32 × hb_M)), k80 x0 x2 x3 x4 x5 σ = some r → hb_T G l z mX9_accumulationPoint 5 0 0 80 [(0, .ref x0), (2, .int x2), (3, .int x3), (4, .int x4), (5, .int x5)] [] σ (.inl (some (.int r.1)), r.2))  {x0 : Nat} {x2 : Int32} {x3 : Int32} {x4 : Int32} {x5 : Int32} {σ : hb_M} {r : (Int32 × hb_M)} (h : f_X9_accumulationPoint_b168 k65 k80 x0 x2 x3 x4 x5 σ = some r) : hb_T G l z mX9_accumulationPoint 5 0 0 168 [(0, .ref x0), (2, .int x2), (3, .int x3), (4, .int x4), (5, .int x5)] [] σ (.inl (some (.int r.1)), r.2) := by
  unfold f_X9_accumulationPoint_b168 at h
  refine hs_iload dX9_accumulationPoint_168 3 rfl ?_
  refine hs_sub (lv' := [(0, .ref x0), (2, .int x2), (3, .int x3), (5, .int x5)]) [0, 1, 2, 4] rfl ?_
  exact c_X9_accumulationPoint_b170 k65 hk65 k80 hk80 h
set_option maxHeartbeats 4000000 in
set_option maxRecDepth 20000 in
theorem c_X9_accumulationPoint_b163 {G : hb_G} {l : Launch} {z : Bool}  (k65 : Nat → Int32 → Int32 → Int32 → hb_M → Option (Int32 × hb_M)) (hk65 : ∀ (x0 : Nat) (x2 : Int32) (x3 : Int32) (x4 : Int32) (σ : hb_M) (r : (Int32 × hb_M)), k65 x0 x2 x3 x4 σ = some r → hb_T G l z mX9_accumulationPoint 5 0 0 65 [(0, .ref x0), (2, .int x2), (3, .int x3), (4, .int x4)] [] σ (.inl (some (.int r.1)), r.2)) (k80 : Nat → Int32 → Int32 → Int32 → Int32 → hb_M → Option (Int32 × hb_M)) (hk80 : ∀ (x0 : Nat) (x2 : Int32) (x3 : Int32) (x4 : Int32) (x5 : Int32) (σ : hb_M) (r : (Int32 × hb_M)), k80 x0 x2 x3 x4 x5 σ = some r → hb_T G l z mX9_accumulationPoint 5 0 0 80 [(0, .ref x0), (2, .int x2), (3, .int x3), (4, .int x4), (5, .int x5)] [] σ (.inl (some (.int r.1)), r.2))  {x0 : Nat} {x2 : Int32} {x3 : Int32} {x5 : Int32} {σ : hb_M} {r : (Int32 × hb_M)} (h : f_X9_accumulationPoint_b163 k65 k80 x0 x2 x3 x5 σ = some r) : hb_T G l z mX9_accumulationPoint 5 0 0 163 [(0, .ref x0), (2, .int x2), (3, .int x3), (5, .int x5)] [] σ (.inl (some (.int r.1)), r.2) := by
  unfold f_X9_accumulationPoint_b163 at h
  refine hs_iload dX9_accumulationPoint_163 3 rfl ?_
  refine hs_goto (tgt := 170) dX9_accumulationPoint_165 (by decide) ?_
  refine hs_sub (lv' := [(0, .ref x0), (2, .int x2), (3, .int x3), (5, .int x5)]) [0, 1, 2, 3] rfl ?_
  exact c_X9_accumulationPoint_b170 k65 hk65 k80 hk80 h
set_option maxHeartbeats 4000000 in
set_option maxRecDepth 20000 in
theorem c_X9_accumulationPoint_b135 {G : hb_G} {l : Launch} {z : Bool}  (k65 : Nat → Int32 → Int32 → Int32 → hb_M → Option (Int32 × hb_M)) (hk65 : ∀ (x0 : Nat) (x2 : Int32) (x3 : Int32) (x4 : Int32) (σ : hb_M) (r : (Int32 × hb_M)), k65 x0 x2 x3 x4 σ = some r → hb_T G l z mX9_accumulationPoint 5 0 0 65 [(0, .ref x0), (2, .int x2), (3, .int x3), (4, .int x4)] [] σ (.inl (some (.int r.1)), r.2)) (k80 : Nat → Int32 → Int32 → Int32 → Int32 → hb_M → Option (Int32 × hb_M)) (hk80 : ∀ (x0 : Nat) (x2 : Int32) (x3 : Int32) (x4 : Int32) (x5 : Int32) (σ : hb_M) (r : (Int32 × hb_M)), k80 x0 x2 x3 x4 x5 σ = some r → hb_T G l z mX9_accumulationPoint 5 0 0 80 [(0, .ref x0), (2, .int x2), (3, .int x3), (4, .int x4), (5, .int x5)] [] σ (.inl (some (.int r.1)), r.2))  {x0 : Nat} {x2 : Int32} {x3 : Int32} {x4 : Int32} {x5 : Int32} {s0 : Int32} {σ : hb_M} {r : (Int32 × hb_M)} (h : f_X9_accumulationPoint_b135 k65 k80 x0 x2 x3 x4 x5 s0 σ = some r) : hb_T G l z mX9_accumulationPoint 5 0 0 135 [(0, .ref x0), (2, .int x2), (3, .int x3), (4, .int x4), (5, .int x5)] [.int s0] σ (.inl (some (.int r.1)), r.2) := by
  unfold f_X9_accumulationPoint_b135 at h
  refine hs_istore (lv' := [(6, .int s0), (0, .ref x0), (2, .int x2), (3, .int x3), (4, .int x4), (5, .int x5)]) dX9_accumulationPoint_135 (by decide) rfl ?_
  refine hs_iload dX9_accumulationPoint_137 0 rfl ?_
  refine hs_if_eq (tgt := 168) dX9_accumulationPoint_139 (by decide) (fun hc1 => ?_) (fun hc1 => ?_)
  · rw [if_pos hc1] at h
    refine hs_sub (lv' := [(0, .ref x0), (2, .int x2), (3, .int x3), (4, .int x4), (5, .int x5)]) [1, 2, 3, 4, 5] rfl ?_
    exact c_X9_accumulationPoint_b168 k65 hk65 k80 hk80 h
  · rw [if_neg hc1] at h
    refine hs_iload dX9_accumulationPoint_142 4 rfl ?_
    refine hs_iconst (v := (-1 : Int32)) dX9_accumulationPoint_144 (by decide) ?_
    refine hs_icmp_eq (tgt := 163) dX9_accumulationPoint_145 (by decide) (fun hc2 => ?_) (fun hc2 => ?_)
    · rw [if_pos hc2] at h
      refine hs_sub (lv' := [(0, .ref x0), (2, .int x2), (3, .int x3), (5, .int x5)]) [1, 2, 3, 5] rfl ?_
      exact c_X9_accumulationPoint_b163 k65 hk65 k80 hk80 h
    · rw [if_neg hc2] at h
      refine hs_aload_n dX9_accumulationPoint_148 1 rfl ?_
      refine hs_iload dX9_accumulationPoint_149 5 rfl ?_
      obtain ⟨r3, h3, h⟩ := hb_bind h
      obtain ⟨h3, nf3, hb3⟩ := hb_on_at h3
      refine hs_callVi (μ' := mX9_retainedBy) (mc := 0) (ms := 0) (rc := 0) (rs := 0) (As := [.int x5]) (rest := []) (ci := 9) dX9_accumulationPoint_151 lmX9_208 okX9_retainedBy rfl (by decide) rfl (Nat.le_of_ble_eq_true rfl) rfl hb3 (c_X9_retainedBy h3) ?_
      refine hs_aload_n dX9_accumulationPoint_154 1 rfl ?_
      refine hs_iload dX9_accumulationPoint_155 4 rfl ?_
      obtain ⟨r4, h4, h⟩ := hb_bind h
      obtain ⟨h4, nf4, hb4⟩ := hb_on_at h4
      refine hs_callVi (μ' := mX9_retainedBy) (mc := 0) (ms := 0) (rc := 0) (rs := 0) (As := [.int x4]) (rest := [.int r3.1]) (ci := 9) dX9_accumulationPoint_157 lmX9_208 okX9_retainedBy rfl (by decide) rfl (Nat.le_of_ble_eq_true rfl) rfl hb4 (c_X9_retainedBy h4) ?_
      refine hs_icmp_le (tgt := 168) dX9_accumulationPoint_160 (by decide) (fun hc5 => ?_) (fun hc5 => ?_)
      · rw [if_pos hc5] at h
        refine hs_sub (lv' := [(0, .ref x0), (2, .int x2), (3, .int x3), (4, .int x4), (5, .int x5)]) [1, 2, 3, 4, 5] rfl ?_
        exact c_X9_accumulationPoint_b168 k65 hk65 k80 hk80 h
      · rw [if_neg hc5] at h
        refine hs_sub (lv' := [(0, .ref x0), (2, .int x2), (3, .int x3), (5, .int x5)]) [1, 2, 3, 5] rfl ?_
        exact c_X9_accumulationPoint_b163 k65 hk65 k80 hk80 h
set_option maxHeartbeats 4000000 in
set_option maxRecDepth 20000 in
theorem c_X9_accumulationPoint_b134 {G : hb_G} {l : Launch} {z : Bool}  (k65 : Nat → Int32 → Int32 → Int32 → hb_M → Option (Int32 × hb_M)) (hk65 : ∀ (x0 : Nat) (x2 : Int32) (x3 : Int32) (x4 : Int32) (σ : hb_M) (r : (Int32 × hb_M)), k65 x0 x2 x3 x4 σ = some r → hb_T G l z mX9_accumulationPoint 5 0 0 65 [(0, .ref x0), (2, .int x2), (3, .int x3), (4, .int x4)] [] σ (.inl (some (.int r.1)), r.2)) (k80 : Nat → Int32 → Int32 → Int32 → Int32 → hb_M → Option (Int32 × hb_M)) (hk80 : ∀ (x0 : Nat) (x2 : Int32) (x3 : Int32) (x4 : Int32) (x5 : Int32) (σ : hb_M) (r : (Int32 × hb_M)), k80 x0 x2 x3 x4 x5 σ = some r → hb_T G l z mX9_accumulationPoint 5 0 0 80 [(0, .ref x0), (2, .int x2), (3, .int x3), (4, .int x4), (5, .int x5)] [] σ (.inl (some (.int r.1)), r.2))  {x0 : Nat} {x2 : Int32} {x3 : Int32} {x4 : Int32} {x5 : Int32} {σ : hb_M} {r : (Int32 × hb_M)} (h : f_X9_accumulationPoint_b134 k65 k80 x0 x2 x3 x4 x5 σ = some r) : hb_T G l z mX9_accumulationPoint 5 0 0 134 [(0, .ref x0), (2, .int x2), (3, .int x3), (4, .int x4), (5, .int x5)] [] σ (.inl (some (.int r.1)), r.2) := by
  unfold f_X9_accumulationPoint_b134 at h
  refine hs_iconst (v := (0 : Int32)) dX9_accumulationPoint_134 (by decide) ?_
  refine hs_sub (lv' := [(0, .ref x0), (2, .int x2), (3, .int x3), (4, .int x4), (5, .int x5)]) [0, 1, 2, 3, 4] rfl ?_
  exact c_X9_accumulationPoint_b135 k65 hk65 k80 hk80 h
set_option maxHeartbeats 4000000 in
set_option maxRecDepth 20000 in
theorem c_X9_accumulationPoint_b80 {G : hb_G} {l : Launch} {z : Bool}  (k65 : Nat → Int32 → Int32 → Int32 → hb_M → Option (Int32 × hb_M)) (hk65 : ∀ (x0 : Nat) (x2 : Int32) (x3 : Int32) (x4 : Int32) (σ : hb_M) (r : (Int32 × hb_M)), k65 x0 x2 x3 x4 σ = some r → hb_T G l z mX9_accumulationPoint 5 0 0 65 [(0, .ref x0), (2, .int x2), (3, .int x3), (4, .int x4)] [] σ (.inl (some (.int r.1)), r.2)) : ∀ (n : Nat) (x0 : Nat) (x2 : Int32) (x3 : Int32) (x4 : Int32) (x5 : Int32) (σ : hb_M) (r : (Int32 × hb_M)), f_X9_accumulationPoint_b80 k65 n x0 x2 x3 x4 x5 σ = some r → hb_T G l z mX9_accumulationPoint 5 0 0 80 [(0, .ref x0), (2, .int x2), (3, .int x3), (4, .int x4), (5, .int x5)] [] σ (.inl (some (.int r.1)), r.2) := by
  intro n
  induction n with
  | zero =>
    intro x0 x2 x3 x4 x5 σ r h
    cases h
  | succ n ih =>
    intro x0 x2 x3 x4 x5 σ r h
    rw [f_X9_accumulationPoint_b80] at h
    refine hs_iload dX9_accumulationPoint_80 4 rfl ?_
    refine hs_bipush (v := (40 : Int32)) dX9_accumulationPoint_82 (by decide) ?_
    refine hs_icmp_ge (tgt := 178) dX9_accumulationPoint_84 (by decide) (fun hc1 => ?_) (fun hc1 => ?_)
    · rw [if_pos hc1] at h
      refine hs_goto (tgt := 65) dX9_accumulationPoint_178 (by decide) ?_
      refine hs_sub (lv' := [(0, .ref x0), (2, .int x2), (3, .int x3), (4, .int x4)]) [0, 1, 2, 3] rfl ?_
      exact hk65 _ _ _ _ _ _ h
    · rw [if_neg hc1] at h
      refine hs_aload_n dX9_accumulationPoint_87 0 rfl ?_
      refine hs_iload dX9_accumulationPoint_88 4 rfl ?_
      obtain ⟨r2, h2, h⟩ := hb_bind h
      obtain ⟨h2, nf2, hb2⟩ := hb_on_at h2
      refine hs_callVi (μ' := mX9_isReached) (mc := 0) (ms := 0) (rc := 0) (rs := 0) (As := [.int x5]) (rest := []) (ci := 9) dX9_accumulationPoint_90 lmX9_181 okX9_isReached rfl (by decide) rfl (Nat.le_of_ble_eq_true rfl) rfl hb2 (c_X9_isReached h2) ?_
      refine hs_if_eq (tgt := 134) dX9_accumulationPoint_93 (by decide) (fun hc3 => ?_) (fun hc3 => ?_)
      · rw [if_pos hc3] at h
        refine hs_sub (lv' := [(0, .ref x0), (2, .int x2), (3, .int x3), (4, .int x4), (5, .int x5)]) [0, 1, 2, 3, 4] rfl ?_
        exact c_X9_accumulationPoint_b134 k65 hk65 (f_X9_accumulationPoint_b80 k65 n) ih h
      · rw [if_neg hc3] at h
        refine hs_aload_n dX9_accumulationPoint_96 0 rfl ?_
        refine hs_iload dX9_accumulationPoint_97 4 rfl ?_
        obtain ⟨r4, h4, h⟩ := hb_bind h
        obtain ⟨h4, nf4, hb4⟩ := hb_on_at h4
        refine hs_callVi (μ' := mX9_immediate) (mc := 0) (ms := 0) (rc := 0) (rs := 0) (As := [.int x5]) (rest := []) (ci := 9) dX9_accumulationPoint_99 lmX9_201 okX9_immediate rfl (by decide) rfl (Nat.le_of_ble_eq_true rfl) rfl hb4 (c_X9_immediate h4) ?_
        refine hs_iload_n dX9_accumulationPoint_102 2 rfl ?_
        refine hs_icmp_ne (tgt := 134) dX9_accumulationPoint_103 (by decide) (fun hc5 => ?_) (fun hc5 => ?_)
        · rw [if_neg hc5] at h
          refine hs_sub (lv' := [(0, .ref x0), (2, .int x2), (3, .int x3), (4, .int x4), (5, .int x5)]) [0, 1, 2, 3, 4] rfl ?_
          exact c_X9_accumulationPoint_b134 k65 hk65 (f_X9_accumulationPoint_b80 k65 n) ih h
        · rw [if_pos hc5] at h
          refine hs_aload_n dX9_accumulationPoint_106 0 rfl ?_
          refine hs_iload dX9_accumulationPoint_107 4 rfl ?_
          obtain ⟨r6, h6, h⟩ := hb_bind h
          obtain ⟨h6, nf6, hb6⟩ := hb_on_at h6
          refine hs_callVi (μ' := mX9_retainedBy) (mc := 0) (ms := 0) (rc := 0) (rs := 0) (As := [.int x5]) (rest := []) (ci := 9) dX9_accumulationPoint_109 lmX9_208 okX9_retainedBy rfl (by decide) rfl (Nat.le_of_ble_eq_true rfl) rfl hb6 (c_X9_retainedBy h6) ?_
          refine hs_i2l dX9_accumulationPoint_112 ?_
          refine hs_ldc2 (v := (100 : Int64)) dX9_accumulationPoint_113 wd_1753 ?_
          refine hs_lmul dX9_accumulationPoint_116 ?_
          refine hs_iload_n dX9_accumulationPoint_117 1 rfl ?_
          refine hs_i2l dX9_accumulationPoint_118 ?_
          refine hs_aload_n dX9_accumulationPoint_119 0 rfl ?_
          refine hs_iload_n dX9_accumulationPoint_120 2 rfl ?_
          obtain ⟨r7, h7, h⟩ := hb_bind h
          obtain ⟨h7, nf7, hb7⟩ := hb_on_at h7
          refine hs_callVi (μ' := mX9_retainedBy) (mc := 0) (ms := 0) (rc := 0) (rs := 0) (As := [.int x3]) (rest := [.long x2.toInt64, .long (r6.1.toInt64 * (100 : Int64))]) (ci := 9) dX9_accumulationPoint_121 lmX9_208 okX9_retainedBy rfl (by decide) rfl (Nat.le_of_ble_eq_true rfl) rfl hb7 (c_X9_retainedBy h7) ?_
          refine hs_i2l dX9_accumulationPoint_124 ?_
          refine hs_lmul dX9_accumulationPoint_125 ?_
          refine hs_lcmp dX9_accumulationPoint_126 ?_
          refine hs_if_lt (tgt := 134) dX9_accumulationPoint_127 (by decide) (fun hc8 => ?_) (fun hc8 => ?_)
          · rw [if_pos hc8] at h
            refine hs_sub (lv' := [(0, .ref x0), (2, .int x2), (3, .int x3), (4, .int x4), (5, .int x5)]) [0, 1, 2, 3, 4] rfl ?_
            exact c_X9_accumulationPoint_b134 k65 hk65 (f_X9_accumulationPoint_b80 k65 n) ih h
          · rw [if_neg hc8] at h
            refine hs_iconst (v := (1 : Int32)) dX9_accumulationPoint_130 (by decide) ?_
            refine hs_goto (tgt := 135) dX9_accumulationPoint_131 (by decide) ?_
            refine hs_sub (lv' := [(0, .ref x0), (2, .int x2), (3, .int x3), (4, .int x4), (5, .int x5)]) [0, 1, 2, 3, 4] rfl ?_
            exact c_X9_accumulationPoint_b135 k65 hk65 (f_X9_accumulationPoint_b80 k65 n) ih h
set_option maxHeartbeats 4000000 in
set_option maxRecDepth 20000 in
theorem c_X9_accumulationPoint_b65 {G : hb_G} {l : Launch} {z : Bool} : ∀ (n : Nat) (x0 : Nat) (x2 : Int32) (x3 : Int32) (x4 : Int32) (σ : hb_M) (r : (Int32 × hb_M)), f_X9_accumulationPoint_b65 n x0 x2 x3 x4 σ = some r → hb_T G l z mX9_accumulationPoint 5 0 0 65 [(0, .ref x0), (2, .int x2), (3, .int x3), (4, .int x4)] [] σ (.inl (some (.int r.1)), r.2) := by
  intro n
  induction n with
  | zero =>
    intro x0 x2 x3 x4 σ r h
    cases h
  | succ n ih =>
    intro x0 x2 x3 x4 σ r h
    rw [f_X9_accumulationPoint_b65] at h
    refine hs_iload dX9_accumulationPoint_65 3 rfl ?_
    refine hs_iconst (v := (-1 : Int32)) dX9_accumulationPoint_67 (by decide) ?_
    refine hs_icmp_eq (tgt := 181) dX9_accumulationPoint_68 (by decide) (fun hc1 => ?_) (fun hc1 => ?_)
    · rw [if_pos hc1] at h
      refine hs_iload_n dX9_accumulationPoint_181 2 rfl ?_
      obtain rfl := Option.some.inj h
      exact hs_ireturn dX9_accumulationPoint_182 rfl (by rfl) (fun _ => rfl)
    · rw [if_neg hc1] at h
      refine hs_iload dX9_accumulationPoint_71 3 rfl ?_
      refine hs_istore_n (lv' := [(3, .int x4), (0, .ref x0), (2, .int x2), (4, .int x4)]) dX9_accumulationPoint_73 (by decide) rfl ?_
      refine hs_iconst (v := (-1 : Int32)) dX9_accumulationPoint_74 (by decide) ?_
      refine hs_istore (lv' := [(4, .int (-1 : Int32)), (3, .int x4), (0, .ref x0), (2, .int x2)]) dX9_accumulationPoint_75 (by decide) rfl ?_
      refine hs_iconst (v := (0 : Int32)) dX9_accumulationPoint_77 (by decide) ?_
      refine hs_istore (lv' := [(5, .int (0 : Int32)), (4, .int (-1 : Int32)), (3, .int x4), (0, .ref x0), (2, .int x2)]) dX9_accumulationPoint_78 (by decide) rfl ?_
      refine hs_sub (lv' := [(0, .ref x0), (2, .int x2), (3, .int x4), (4, .int (-1 : Int32)), (5, .int (0 : Int32))]) [3, 4, 2, 1, 0] rfl ?_
      exact c_X9_accumulationPoint_b80 (f_X9_accumulationPoint_b65 n) ih hb_FU _ _ _ _ _ _ _ h
set_option maxHeartbeats 4000000 in
set_option maxRecDepth 20000 in
theorem c_X9_accumulationPoint_b52 {G : hb_G} {l : Launch} {z : Bool}  {x0 : Nat} {x1 : Int32} {x2 : Int32} {s0 : Nat} {s1 : Int32} {σ : hb_M} {r : (Int32 × hb_M)} (h : f_X9_accumulationPoint_b52 x0 x1 x2 s0 s1 σ = some r) : hb_T G l z mX9_accumulationPoint 5 0 0 52 [(0, .ref x0), (1, .int x1), (2, .int x2)] [.int s1, .ref s0] σ (.inl (some (.int r.1)), r.2) := by
  unfold f_X9_accumulationPoint_b52 at h
  obtain ⟨r1, h1, h⟩ := hb_bind h
  obtain ⟨h1, nf1, hb1⟩ := hb_on_at h1
  refine hs_callVi (μ' := mX9_refused) (mc := 0) (ms := 0) (rc := 0) (rs := 0) (As := [.int s1]) (rest := []) (ci := 9) dX9_accumulationPoint_52 lmX9_74 okX9_refused rfl (by decide) rfl (Nat.le_of_ble_eq_true rfl) rfl hb1 (c_X9_refused h1) ?_
  refine hs_if_eq (tgt := 60) dX9_accumulationPoint_55 (by decide) (fun hc2 => ?_) (fun hc2 => ?_)
  · rw [if_pos hc2] at h
    refine hs_iload_n dX9_accumulationPoint_60 1 rfl ?_
    refine hs_istore_n (lv' := [(3, .int x1), (0, .ref x0), (1, .int x1), (2, .int x2)]) dX9_accumulationPoint_61 (by decide) rfl ?_
    refine hs_iload_n dX9_accumulationPoint_62 0 rfl ?_
    refine hs_istore (lv' := [(4, .int x1), (3, .int x1), (0, .ref x0), (1, .int x1), (2, .int x2)]) dX9_accumulationPoint_63 (by decide) rfl ?_
    refine hs_sub (lv' := [(0, .ref x0), (2, .int x2), (3, .int x1), (4, .int x1)]) [2, 4, 1, 0] rfl ?_
    exact c_X9_accumulationPoint_b65 hb_FU _ _ _ _ _ _ h
  · rw [if_neg hc2] at h
    refine hs_iconst (v := (0 : Int32)) dX9_accumulationPoint_58 (by decide) ?_
    obtain rfl := Option.some.inj h
    exact hs_ireturn dX9_accumulationPoint_59 rfl (by rfl) (fun _ => rfl)
set_option maxHeartbeats 4000000 in
set_option maxRecDepth 20000 in
theorem c_X9_accumulationPoint_b12 {G : hb_G} {l : Launch} {z : Bool}  {x0 : Nat} {x1 : Int32} {x2 : Int32} {σ : hb_M} {r : (Int32 × hb_M)} (h : f_X9_accumulationPoint_b12 x0 x1 x2 σ = some r) : hb_T G l z mX9_accumulationPoint 5 0 0 12 [(0, .ref x0), (1, .int x1), (2, .int x2)] [] σ (.inl (some (.int r.1)), r.2) := by
  unfold f_X9_accumulationPoint_b12 at h
  refine hs_aload_n dX9_accumulationPoint_12 0 rfl ?_
  refine hs_aload_n dX9_accumulationPoint_13 0 rfl ?_
  refine hs_iload_n dX9_accumulationPoint_14 1 rfl ?_
  obtain ⟨r1, h1, h⟩ := hb_bind h
  obtain ⟨h1, nf1, hb1⟩ := hb_on_at h1
  refine hs_callVi (μ' := mX9_isObject) (mc := 0) (ms := 0) (rc := 0) (rs := 0) (As := [.int x1]) (rest := [.ref x0]) (ci := 9) dX9_accumulationPoint_15 lmX9_106 okX9_isObject rfl (by decide) rfl (Nat.le_of_ble_eq_true rfl) rfl hb1 (c_X9_isObject h1) ?_
  refine hs_if_ne (tgt := 25) dX9_accumulationPoint_18 (by decide) (fun hc2 => ?_) (fun hc2 => ?_)
  · rw [if_neg hc2] at h
    refine hs_iload_n dX9_accumulationPoint_25 2 rfl ?_
    refine hs_iconst (v := (1 : Int32)) dX9_accumulationPoint_26 (by decide) ?_
    refine hs_bipush (v := (100 : Int32)) dX9_accumulationPoint_27 (by decide) ?_
    obtain ⟨r3, h3, h⟩ := hb_bind h
    refine hs_callSi (μ' := mX9_within) (mc := 0) (ms := 0) (rc := 0) (rs := 0) (As := [.int x2, .int (1 : Int32), .int (100 : Int32)]) (rest := [.ref x0]) dX9_accumulationPoint_29 lmX9_78 okX9_within rfl (by decide) rfl (Nat.le_of_ble_eq_true rfl) (c_X9_within h3) ?_
    refine hs_if_ne (tgt := 39) dX9_accumulationPoint_32 (by decide) (fun hc4 => ?_) (fun hc4 => ?_)
    · rw [if_neg hc4] at h
      refine hs_aload_n dX9_accumulationPoint_39 0 rfl ?_
      refine hs_iload_n dX9_accumulationPoint_40 1 rfl ?_
      obtain ⟨r5, h5, h⟩ := hb_bind h
      obtain ⟨h5, nf5, hb5⟩ := hb_on_at h5
      refine hs_callVi (μ' := mX9_isReached) (mc := 0) (ms := 0) (rc := 0) (rs := 0) (As := [.int x1]) (rest := [.ref x0]) (ci := 9) dX9_accumulationPoint_41 lmX9_181 okX9_isReached rfl (by decide) rfl (Nat.le_of_ble_eq_true rfl) rfl hb5 (c_X9_isReached h5) ?_
      refine hs_if_ne (tgt := 51) dX9_accumulationPoint_44 (by decide) (fun hc6 => ?_) (fun hc6 => ?_)
      · rw [if_neg hc6] at h
        refine hs_iconst (v := (0 : Int32)) dX9_accumulationPoint_51 (by decide) ?_
        refine hs_sub (lv' := [(0, .ref x0), (1, .int x1), (2, .int x2)]) [0, 1, 2] rfl ?_
        exact c_X9_accumulationPoint_b52 h
      · rw [if_pos hc6] at h
        refine hs_iconst (v := (3 : Int32)) dX9_accumulationPoint_47 (by decide) ?_
        refine hs_goto (tgt := 52) dX9_accumulationPoint_48 (by decide) ?_
        refine hs_sub (lv' := [(0, .ref x0), (1, .int x1), (2, .int x2)]) [0, 1, 2] rfl ?_
        exact c_X9_accumulationPoint_b52 h
    · rw [if_pos hc4] at h
      refine hs_iconst (v := (2 : Int32)) dX9_accumulationPoint_35 (by decide) ?_
      refine hs_goto (tgt := 52) dX9_accumulationPoint_36 (by decide) ?_
      refine hs_sub (lv' := [(0, .ref x0), (1, .int x1), (2, .int x2)]) [0, 1, 2] rfl ?_
      exact c_X9_accumulationPoint_b52 h
  · rw [if_pos hc2] at h
    refine hs_iconst (v := (1 : Int32)) dX9_accumulationPoint_21 (by decide) ?_
    refine hs_goto (tgt := 52) dX9_accumulationPoint_22 (by decide) ?_
    refine hs_sub (lv' := [(0, .ref x0), (1, .int x1), (2, .int x2)]) [0, 1, 2] rfl ?_
    exact c_X9_accumulationPoint_b52 h
set_option maxHeartbeats 4000000 in
set_option maxRecDepth 20000 in
theorem c_X9_accumulationPoint {G : hb_G} {l : Launch} {z : Bool} {x0 : Nat} {x1 : Int32} {x2 : Int32} {σ : hb_M} {r : (Int32 × hb_M)} (h : f_X9_accumulationPoint x0 x1 x2 σ = some r) : hb_Call G l z 5 0 0 mX9_accumulationPoint [.ref x0, .int x1, .int x2] σ (.inl (some (.int r.1)), r.2) := by
  refine hb_met (by decide) (Nat.le_of_ble_eq_true rfl) ?_
  unfold f_X9_accumulationPoint at h
  refine hs_aload_n dX9_accumulationPoint_0 0 rfl ?_
  refine hs_iload_n dX9_accumulationPoint_1 1 rfl ?_
  obtain ⟨r1, h1, h⟩ := hb_bind h
  obtain ⟨h1, nf1, hb1⟩ := hb_on_at h1
  refine hs_callVi (μ' := mX9_isObject) (mc := 0) (ms := 0) (rc := 0) (rs := 0) (As := [.int x1]) (rest := []) (ci := 9) dX9_accumulationPoint_2 lmX9_106 okX9_isObject rfl (by decide) rfl (Nat.le_of_ble_eq_true rfl) rfl hb1 (c_X9_isObject h1) ?_
  refine hs_if_eq (tgt := 12) dX9_accumulationPoint_5 (by decide) (fun hc2 => ?_) (fun hc2 => ?_)
  · rw [if_pos hc2] at h
    refine hs_sub (lv' := [(0, .ref x0), (1, .int x1), (2, .int x2)]) [0, 1, 2] rfl ?_
    exact c_X9_accumulationPoint_b12 h
  · rw [if_neg hc2] at h
    refine hs_aload_n dX9_accumulationPoint_8 0 rfl ?_
    obtain ⟨r3, h3, h⟩ := hb_bind h
    obtain ⟨h3, nf3, hb3⟩ := hb_on_at h3
    refine hs_callVv (μ' := mX9_laysRetained) (mc := 0) (ms := 0) (rc := 0) (rs := 0) (As := []) (rest := []) (ci := 9) dX9_accumulationPoint_9 lmX9_198 okX9_laysRetained rfl (by decide) rfl (Nat.le_of_ble_eq_true rfl) rfl hb3 (c_X9_laysRetained h3) ?_
    refine hs_sub (lv' := [(0, .ref x0), (1, .int x1), (2, .int x2)]) [0, 1, 2] rfl ?_
    exact c_X9_accumulationPoint_b12 h
def mX9_append : hb_Y := (yX9_append, cX9_append, 2, (some .int), [], false)
set_option maxHeartbeats 4000000 in
set_option maxRecDepth 20000 in
theorem c_X9_append_b29 {G : hb_G} {l : Launch} {z : Bool}  {x0 : Nat} {x1 : Int32} {s0 : Nat} {s1 : Int32} {σ : hb_M} {r : (Int32 × hb_M)} (h : f_X9_append_b29 x0 x1 s0 s1 σ = some r) : hb_T G l z mX9_append 1 0 0 29 [(0, .ref x0), (1, .int x1)] [.int s1, .ref s0] σ (.inl (some (.int r.1)), r.2) := by
  unfold f_X9_append_b29 at h
  obtain ⟨r1, h1, h⟩ := hb_bind h
  obtain ⟨h1, nf1, hb1⟩ := hb_on_at h1
  refine hs_callVi (μ' := mX9_refused) (mc := 0) (ms := 0) (rc := 0) (rs := 0) (As := [.int s1]) (rest := []) (ci := 9) dX9_append_29 lmX9_74 okX9_refused rfl (by decide) rfl (Nat.le_of_ble_eq_true rfl) rfl hb1 (c_X9_refused h1) ?_
  refine hs_if_eq (tgt := 37) dX9_append_32 (by decide) (fun hc2 => ?_) (fun hc2 => ?_)
  · rw [if_pos hc2] at h
    refine hs_aload_n dX9_append_37 0 rfl ?_
    obtain ⟨r3, h3, h⟩ := hb_bind h
    refine hs_getR dX9_append_38 lkX9_19 rfl h3 ?_
    refine hs_aload_n dX9_append_41 0 rfl ?_
    obtain ⟨r4, h4, h⟩ := hb_bind h
    refine hs_getI dX9_append_42 lkX9_248 rfl h4 ?_
    refine hs_iload_n dX9_append_45 1 rfl ?_
    obtain ⟨r5, h5, h⟩ := hb_bind h
    refine hs_iast dX9_append_46 h5 ?_
    refine hs_aload_n dX9_append_47 0 rfl ?_
    refine hs_dup dX9_append_48 rfl ?_
    obtain ⟨r6, h6, h⟩ := hb_bind h
    refine hs_getI dX9_append_49 lkX9_248 rfl h6 ?_
    refine hs_iconst (v := (1 : Int32)) dX9_append_52 (by decide) ?_
    refine hs_iadd dX9_append_53 ?_
    obtain ⟨r7, h7, h⟩ := hb_bind h
    refine hs_putI dX9_append_54 lpX9_append_248 rfl h7 ?_
    refine hs_aload_n dX9_append_57 0 rfl ?_
    obtain ⟨r8, h8, h⟩ := hb_bind h
    refine hs_getI dX9_append_58 lkX9_248 rfl h8 ?_
    obtain rfl := Option.some.inj h
    exact hs_ireturn dX9_append_61 rfl (by rfl) (fun _ => rfl)
  · rw [if_neg hc2] at h
    refine hs_iconst (v := (0 : Int32)) dX9_append_35 (by decide) ?_
    obtain rfl := Option.some.inj h
    exact hs_ireturn dX9_append_36 rfl (by rfl) (fun _ => rfl)
set_option maxHeartbeats 4000000 in
set_option maxRecDepth 20000 in
theorem c_X9_append {G : hb_G} {l : Launch} {z : Bool} {x0 : Nat} {x1 : Int32} {σ : hb_M} {r : (Int32 × hb_M)} (h : f_X9_append x0 x1 σ = some r) : hb_Call G l z 1 0 0 mX9_append [.ref x0, .int x1] σ (.inl (some (.int r.1)), r.2) := by
  refine hb_met (by decide) (Nat.le_of_ble_eq_true rfl) ?_
  unfold f_X9_append at h
  refine hs_aload_n dX9_append_0 0 rfl ?_
  refine hs_iload_n dX9_append_1 1 rfl ?_
  refine hs_iconst (v := (0 : Int32)) dX9_append_2 (by decide) ?_
  refine hs_bipush (v := (127 : Int32)) dX9_append_3 (by decide) ?_
  obtain ⟨r1, h1, h⟩ := hb_bind h
  refine hs_callSi (μ' := mX9_within) (mc := 0) (ms := 0) (rc := 0) (rs := 0) (As := [.int x1, .int (0 : Int32), .int (127 : Int32)]) (rest := [.ref x0]) dX9_append_5 lmX9_78 okX9_within rfl (by decide) rfl (Nat.le_of_ble_eq_true rfl) (c_X9_within h1) ?_
  refine hs_if_ne (tgt := 15) dX9_append_8 (by decide) (fun hc2 => ?_) (fun hc2 => ?_)
  · rw [if_neg hc2] at h
    refine hs_aload_n dX9_append_15 0 rfl ?_
    obtain ⟨r3, h3, h⟩ := hb_bind h
    refine hs_getI dX9_append_16 lkX9_248 rfl h3 ?_
    refine hs_bipush (v := (100 : Int32)) dX9_append_19 (by decide) ?_
    refine hs_icmp_ne (tgt := 28) dX9_append_21 (by decide) (fun hc4 => ?_) (fun hc4 => ?_)
    · rw [if_neg hc4] at h
      refine hs_iconst (v := (0 : Int32)) dX9_append_28 (by decide) ?_
      refine hs_sub (lv' := [(0, .ref x0), (1, .int x1)]) [0, 1] rfl ?_
      exact c_X9_append_b29 h
    · rw [if_pos hc4] at h
      refine hs_iconst (v := (2 : Int32)) dX9_append_24 (by decide) ?_
      refine hs_goto (tgt := 29) dX9_append_25 (by decide) ?_
      refine hs_sub (lv' := [(0, .ref x0), (1, .int x1)]) [0, 1] rfl ?_
      exact c_X9_append_b29 h
  · rw [if_pos hc2] at h
    refine hs_iconst (v := (1 : Int32)) dX9_append_11 (by decide) ?_
    refine hs_goto (tgt := 29) dX9_append_12 (by decide) ?_
    refine hs_sub (lv' := [(0, .ref x0), (1, .int x1)]) [0, 1] rfl ?_
    exact c_X9_append_b29 h
def mX9_clearText : hb_Y := (yX9_clearText, cX9_clearText, 2, (some .int), [], false)
set_option maxHeartbeats 4000000 in
set_option maxRecDepth 20000 in
theorem c_X9_clearText {G : hb_G} {l : Launch} {z : Bool} {x0 : Nat} {σ : hb_M} {r : (Int32 × hb_M)} (h : f_X9_clearText x0 σ = some r) : hb_Call G l z 0 0 0 mX9_clearText [.ref x0] σ (.inl (some (.int r.1)), r.2) := by
  refine hb_met (by decide) (Nat.le_of_ble_eq_true rfl) ?_
  unfold f_X9_clearText at h
  refine hs_aload_n dX9_clearText_0 0 rfl ?_
  refine hs_iconst (v := (0 : Int32)) dX9_clearText_1 (by decide) ?_
  obtain ⟨r1, h1, h⟩ := hb_bind h
  refine hs_putI dX9_clearText_2 lpX9_clearText_63 rfl h1 ?_
  refine hs_aload_n dX9_clearText_5 0 rfl ?_
  obtain ⟨r2, h2, h⟩ := hb_bind h
  refine hs_getI dX9_clearText_6 lkX9_248 rfl h2 ?_
  refine hs_istore_n (lv' := [(1, .int r2), (0, .ref x0)]) dX9_clearText_9 (by decide) rfl ?_
  refine hs_aload_n dX9_clearText_10 1 rfl ?_
  refine hs_iconst (v := (0 : Int32)) dX9_clearText_11 (by decide) ?_
  obtain ⟨r3, h3, h⟩ := hb_bind h
  refine hs_putI dX9_clearText_12 lpX9_clearText_248 rfl h3 ?_
  refine hs_iload_n dX9_clearText_15 0 rfl ?_
  obtain rfl := Option.some.inj h
  exact hs_ireturn dX9_clearText_16 rfl (by rfl) (fun _ => rfl)
def mX9_gives : hb_Y := (yX9_gives, cX9_gives, 4, none, [], false)
theorem okX9_gives : hb_okV mX9_gives 3 := ⟨⟨hb_w 11 (by decide +kernel) (by decide +kernel), hb_w 1793 (by decide +kernel) (by decide +kernel), ⟨by decide +kernel, by decide +kernel, by decide +kernel⟩, by decide⟩, hb_w 1792 (by decide +kernel) (by decide +kernel), hb_wp (q := (yX9_gives, 29)) 79 (by decide +kernel) (by decide +kernel)⟩
set_option maxHeartbeats 4000000 in
set_option maxRecDepth 20000 in
theorem c_X9_gives {G : hb_G} {l : Launch} {z : Bool} {x0 : Nat} {x1 : Int32} {x2 : Int32} {x3 : Int32} {σ : hb_M} {r : hb_M} (h : f_X9_gives x0 x1 x2 x3 σ = some r) : hb_Call G l z 0 0 0 mX9_gives [.ref x0, .int x1, .int x2, .int x3] σ (.inl none, r) := by
  refine hb_met (by decide) (Nat.le_of_ble_eq_true rfl) ?_
  unfold f_X9_gives at h
  refine hs_aload_n dX9_gives_0 0 rfl ?_
  obtain ⟨r1, h1, h⟩ := hb_bind h
  refine hs_getR dX9_gives_1 lkX9_44 rfl h1 ?_
  refine hs_aload_n dX9_gives_4 0 rfl ?_
  obtain ⟨r2, h2, h⟩ := hb_bind h
  refine hs_getI dX9_gives_5 lkX9_251 rfl h2 ?_
  refine hs_iload_n dX9_gives_8 1 rfl ?_
  obtain ⟨r3, h3, h⟩ := hb_bind h
  refine hs_iast dX9_gives_9 h3 ?_
  refine hs_aload_n dX9_gives_10 0 rfl ?_
  obtain ⟨r4, h4, h⟩ := hb_bind h
  refine hs_getR dX9_gives_11 lkX9_47 rfl h4 ?_
  refine hs_aload_n dX9_gives_14 0 rfl ?_
  obtain ⟨r5, h5, h⟩ := hb_bind h
  refine hs_getI dX9_gives_15 lkX9_251 rfl h5 ?_
  refine hs_iload_n dX9_gives_18 2 rfl ?_
  obtain ⟨r6, h6, h⟩ := hb_bind h
  refine hs_iast dX9_gives_19 h6 ?_
  refine hs_aload_n dX9_gives_20 0 rfl ?_
  obtain ⟨r7, h7, h⟩ := hb_bind h
  refine hs_getR dX9_gives_21 lkX9_50 rfl h7 ?_
  refine hs_aload_n dX9_gives_24 0 rfl ?_
  obtain ⟨r8, h8, h⟩ := hb_bind h
  refine hs_getI dX9_gives_25 lkX9_251 rfl h8 ?_
  refine hs_iload_n dX9_gives_28 3 rfl ?_
  obtain ⟨r9, h9, h⟩ := hb_bind h
  refine hs_iast dX9_gives_29 h9 ?_
  refine hs_aload_n dX9_gives_30 0 rfl ?_
  refine hs_dup dX9_gives_31 rfl ?_
  obtain ⟨r10, h10, h⟩ := hb_bind h
  refine hs_getI dX9_gives_32 lkX9_251 rfl h10 ?_
  refine hs_iconst (v := (1 : Int32)) dX9_gives_35 (by decide) ?_
  refine hs_iadd dX9_gives_36 ?_
  obtain ⟨r11, h11, h⟩ := hb_bind h
  refine hs_putI dX9_gives_37 lpX9_gives_251 rfl h11 ?_
  obtain rfl := Option.some.inj h
  exact hs_return dX9_gives_40 rfl (fun _ => rfl)
def mX9_waits : hb_Y := (yX9_waits, cX9_waits, 2, none, [], false)
theorem okX9_waits : hb_okV mX9_waits 1 := ⟨⟨hb_w 11 (by decide +kernel) (by decide +kernel), hb_w 1781 (by decide +kernel) (by decide +kernel), ⟨by decide +kernel, by decide +kernel, by decide +kernel⟩, by decide⟩, hb_w 1780 (by decide +kernel) (by decide +kernel), hb_wp (q := (yX9_waits, 29)) 76 (by decide +kernel) (by decide +kernel)⟩
set_option maxHeartbeats 4000000 in
set_option maxRecDepth 20000 in
theorem c_X9_waits {G : hb_G} {l : Launch} {z : Bool} {x0 : Nat} {x1 : Int32} {σ : hb_M} {r : hb_M} (h : f_X9_waits x0 x1 σ = some r) : hb_Call G l z 0 0 0 mX9_waits [.ref x0, .int x1] σ (.inl none, r) := by
  refine hb_met (by decide) (Nat.le_of_ble_eq_true rfl) ?_
  unfold f_X9_waits at h
  refine hs_aload_n dX9_waits_0 0 rfl ?_
  obtain ⟨r1, h1, h⟩ := hb_bind h
  refine hs_getR dX9_waits_1 lkX9_53 rfl h1 ?_
  refine hs_aload_n dX9_waits_4 0 rfl ?_
  obtain ⟨r2, h2, h⟩ := hb_bind h
  refine hs_getI dX9_waits_5 lkX9_254 rfl h2 ?_
  refine hs_iload_n dX9_waits_8 1 rfl ?_
  obtain ⟨r3, h3, h⟩ := hb_bind h
  refine hs_iast dX9_waits_9 h3 ?_
  refine hs_aload_n dX9_waits_10 0 rfl ?_
  refine hs_dup dX9_waits_11 rfl ?_
  obtain ⟨r4, h4, h⟩ := hb_bind h
  refine hs_getI dX9_waits_12 lkX9_254 rfl h4 ?_
  refine hs_iconst (v := (1 : Int32)) dX9_waits_15 (by decide) ?_
  refine hs_iadd dX9_waits_16 ?_
  obtain ⟨r5, h5, h⟩ := hb_bind h
  refine hs_putI dX9_waits_17 lpX9_waits_254 rfl h5 ?_
  obtain rfl := Option.some.inj h
  exact hs_return dX9_waits_20 rfl (fun _ => rfl)
def mX9_comesOut : hb_Y := (yX9_comesOut, cX9_comesOut, 2, none, [], false)
theorem okX9_comesOut : hb_okV mX9_comesOut 1 := ⟨⟨hb_w 11 (by decide +kernel) (by decide +kernel), hb_w 1803 (by decide +kernel) (by decide +kernel), ⟨by decide +kernel, by decide +kernel, by decide +kernel⟩, by decide⟩, hb_w 1802 (by decide +kernel) (by decide +kernel), hb_wp (q := (yX9_comesOut, 29)) 80 (by decide +kernel) (by decide +kernel)⟩
set_option maxHeartbeats 4000000 in
set_option maxRecDepth 20000 in
theorem c_X9_comesOut_b0 {G : hb_G} {l : Launch} {z : Bool} : ∀ (n : Nat) (x0 : Nat) (x1 : Int32) (σ : hb_M) (r : hb_M), f_X9_comesOut_b0 n x0 x1 σ = some r → hb_T G l z mX9_comesOut 1 0 0 0 [(0, .ref x0), (1, .int x1)] [] σ (.inl none, r) := by
  intro n
  induction n with
  | zero =>
    intro x0 x1 σ r h
    cases h
  | succ n ih =>
    intro x0 x1 σ r h
    rw [f_X9_comesOut_b0] at h
    refine hs_aload_n dX9_comesOut_0 0 rfl ?_
    obtain ⟨r1, h1, h⟩ := hb_bind h
    refine hs_getI dX9_comesOut_1 lkX9_254 rfl h1 ?_
    refine hs_if_le (tgt := 67) dX9_comesOut_4 (by decide) (fun hc2 => ?_) (fun hc2 => ?_)
    · rw [if_pos hc2] at h
      obtain rfl := Option.some.inj h
      exact hs_return dX9_comesOut_67 rfl (fun _ => rfl)
    · rw [if_neg hc2] at h
      refine hs_aload_n dX9_comesOut_7 0 rfl ?_
      obtain ⟨r3, h3, h⟩ := hb_bind h
      refine hs_getR dX9_comesOut_8 lkX9_53 rfl h3 ?_
      refine hs_aload_n dX9_comesOut_11 0 rfl ?_
      obtain ⟨r4, h4, h⟩ := hb_bind h
      refine hs_getI dX9_comesOut_12 lkX9_254 rfl h4 ?_
      refine hs_iconst (v := (1 : Int32)) dX9_comesOut_15 (by decide) ?_
      refine hs_isub dX9_comesOut_16 ?_
      obtain ⟨r5, h5, h⟩ := hb_bind h
      refine hs_iald dX9_comesOut_17 h5 ?_
      refine hs_sipush (v := (203 : Int32)) dX9_comesOut_18 (by decide) ?_
      refine hs_icmp_eq (tgt := 67) dX9_comesOut_21 (by decide) (fun hc6 => ?_) (fun hc6 => ?_)
      · rw [if_pos hc6] at h
        obtain rfl := Option.some.inj h
        exact hs_return dX9_comesOut_67 rfl (fun _ => rfl)
      · rw [if_neg hc6] at h
        refine hs_aload_n dX9_comesOut_24 0 rfl ?_
        obtain ⟨r7, h7, h⟩ := hb_bind h
        refine hs_getR dX9_comesOut_25 lkX9_53 rfl h7 ?_
        refine hs_aload_n dX9_comesOut_28 0 rfl ?_
        obtain ⟨r8, h8, h⟩ := hb_bind h
        refine hs_getI dX9_comesOut_29 lkX9_254 rfl h8 ?_
        refine hs_iconst (v := (1 : Int32)) dX9_comesOut_32 (by decide) ?_
        refine hs_isub dX9_comesOut_33 ?_
        obtain ⟨r9, h9, h⟩ := hb_bind h
        refine hs_iald dX9_comesOut_34 h9 ?_
        refine hs_iload_n dX9_comesOut_35 1 rfl ?_
        refine hs_icmp_gt (tgt := 67) dX9_comesOut_36 (by decide) (fun hc10 => ?_) (fun hc10 => ?_)
        · rw [if_pos hc10] at h
          obtain rfl := Option.some.inj h
          exact hs_return dX9_comesOut_67 rfl (fun _ => rfl)
        · rw [if_neg hc10] at h
          refine hs_aload_n dX9_comesOut_39 0 rfl ?_
          refine hs_dup dX9_comesOut_40 rfl ?_
          obtain ⟨r11, h11, h⟩ := hb_bind h
          refine hs_getI dX9_comesOut_41 lkX9_254 rfl h11 ?_
          refine hs_iconst (v := (1 : Int32)) dX9_comesOut_44 (by decide) ?_
          refine hs_isub dX9_comesOut_45 ?_
          obtain ⟨r12, h12, h⟩ := hb_bind h
          refine hs_putI dX9_comesOut_46 lpX9_comesOut_254 rfl h12 ?_
          refine hs_aload_n dX9_comesOut_49 0 rfl ?_
          refine hs_aload_n dX9_comesOut_50 0 rfl ?_
          obtain ⟨r13, h13, h⟩ := hb_bind h
          refine hs_getR dX9_comesOut_51 lkX9_53 rfl h13 ?_
          refine hs_aload_n dX9_comesOut_54 0 rfl ?_
          obtain ⟨r14, h14, h⟩ := hb_bind h
          refine hs_getI dX9_comesOut_55 lkX9_254 rfl h14 ?_
          obtain ⟨r15, h15, h⟩ := hb_bind h
          refine hs_iald dX9_comesOut_58 h15 ?_
          refine hs_iconst (v := (0 : Int32)) dX9_comesOut_59 (by decide) ?_
          refine hs_iconst (v := (0 : Int32)) dX9_comesOut_60 (by decide) ?_
          obtain ⟨r16, h16, h⟩ := hb_bind h
          obtain ⟨h16, nf16, hb16⟩ := hb_on_at h16
          refine hs_callVv (μ' := mX9_gives) (mc := 0) (ms := 0) (rc := 0) (rs := 0) (As := [.int r15, .int (0 : Int32), .int (0 : Int32)]) (rest := []) (ci := 9) dX9_comesOut_61 lmX9_257 okX9_gives rfl (by decide) rfl (Nat.le_of_ble_eq_true rfl) rfl hb16 (c_X9_gives h16) ?_
          refine hs_goto (tgt := 0) dX9_comesOut_64 (by decide) ?_
          refine hs_sub (lv' := [(0, .ref x0), (1, .int x1)]) [0, 1] rfl ?_
          exact ih _ _ _ _ h
set_option maxHeartbeats 4000000 in
set_option maxRecDepth 20000 in
theorem c_X9_comesOut {G : hb_G} {l : Launch} {z : Bool} {x0 : Nat} {x1 : Int32} {σ : hb_M} {r : hb_M} (h : f_X9_comesOut x0 x1 σ = some r) : hb_Call G l z 1 0 0 mX9_comesOut [.ref x0, .int x1] σ (.inl none, r) := by
  refine hb_met (by decide) (Nat.le_of_ble_eq_true rfl) ?_
  unfold f_X9_comesOut at h
  refine hs_sub (lv' := [(0, .ref x0), (1, .int x1)]) [0, 1] rfl ?_
  exact c_X9_comesOut_b0 hb_FU _ _ _ _ h
def mX9_letter : hb_Y := (yX9_letter, cX9_letter, 2, (some .int), [], false)
theorem okX9_letter : hb_okV mX9_letter 1 := ⟨⟨hb_w 11 (by decide +kernel) (by decide +kernel), hb_w 1789 (by decide +kernel) (by decide +kernel), ⟨by decide +kernel, by decide +kernel, by decide +kernel⟩, by decide⟩, hb_w 1788 (by decide +kernel) (by decide +kernel), hb_wp (q := (yX9_letter, 29)) 78 (by decide +kernel) (by decide +kernel)⟩
set_option maxHeartbeats 4000000 in
set_option maxRecDepth 20000 in
theorem c_X9_letter {G : hb_G} {l : Launch} {z : Bool} {x0 : Nat} {x1 : Int32} {σ : hb_M} {r : (Int32 × hb_M)} (h : f_X9_letter x0 x1 σ = some r) : hb_Call G l z 0 0 0 mX9_letter [.ref x0, .int x1] σ (.inl (some (.int r.1)), r.2) := by
  refine hb_met (by decide) (Nat.le_of_ble_eq_true rfl) ?_
  unfold f_X9_letter at h
  refine hs_iload_n dX9_letter_0 1 rfl ?_
  refine hs_aload_n dX9_letter_1 0 rfl ?_
  obtain ⟨r1, h1, h⟩ := hb_bind h
  refine hs_getI dX9_letter_2 lkX9_248 rfl h1 ?_
  refine hs_icmp_ge (tgt := 17) dX9_letter_5 (by decide) (fun hc2 => ?_) (fun hc2 => ?_)
  · rw [if_pos hc2] at h
    refine hs_iconst (v := (-1 : Int32)) dX9_letter_17 (by decide) ?_
    obtain rfl := Option.some.inj h
    exact hs_ireturn dX9_letter_18 rfl (by rfl) (fun _ => rfl)
  · rw [if_neg hc2] at h
    refine hs_aload_n dX9_letter_8 0 rfl ?_
    obtain ⟨r3, h3, h⟩ := hb_bind h
    refine hs_getR dX9_letter_9 lkX9_19 rfl h3 ?_
    refine hs_iload_n dX9_letter_12 1 rfl ?_
    obtain ⟨r4, h4, h⟩ := hb_bind h
    refine hs_iald dX9_letter_13 h4 ?_
    refine hs_goto (tgt := 18) dX9_letter_14 (by decide) ?_
    obtain rfl := Option.some.inj h
    exact hs_ireturn dX9_letter_18 rfl (by rfl) (fun _ => rfl)
def mX9_isDigit : hb_Y := (yX9_isDigit, cX9_isDigit, 1, (some .boolean), [], false)
theorem okX9_isDigit : hb_okS mX9_isDigit 1 := ⟨⟨hb_w 11 (by decide +kernel) (by decide +kernel), hb_w 1796 (by decide +kernel) (by decide +kernel), ⟨by decide +kernel, by decide +kernel, by decide +kernel⟩, by decide⟩, hb_w 1795 (by decide +kernel) (by decide +kernel)⟩
set_option maxHeartbeats 4000000 in
set_option maxRecDepth 20000 in
theorem c_X9_isDigit {G : hb_G} {l : Launch} {z : Bool} {x0 : Int32} {σ : hb_M} {r : (Int32 × hb_M)} (h : f_X9_isDigit x0 σ = some r) : hb_Call G l z 1 0 0 mX9_isDigit [.int x0] σ (.inl (some (.int r.1)), r.2) := by
  refine hb_met (by decide) (Nat.le_of_ble_eq_true rfl) ?_
  unfold f_X9_isDigit at h
  refine hs_iload_n dX9_isDigit_0 0 rfl ?_
  refine hs_bipush (v := (48 : Int32)) dX9_isDigit_1 (by decide) ?_
  refine hs_bipush (v := (57 : Int32)) dX9_isDigit_3 (by decide) ?_
  obtain ⟨r1, h1, h⟩ := hb_bind h
  refine hs_callSi (μ' := mX9_within) (mc := 0) (ms := 0) (rc := 0) (rs := 0) (As := [.int x0, .int (48 : Int32), .int (57 : Int32)]) (rest := []) dX9_isDigit_5 lmX9_78 okX9_within rfl (by decide) rfl (Nat.le_of_ble_eq_true rfl) (c_X9_within h1) ?_
  obtain ⟨rfl, hn⟩ := hb_zr_at h
  exact hs_ireturn dX9_isDigit_8 rfl hn (fun _ => rfl)
def mX9_isValue : hb_Y := (yX9_isValue, cX9_isValue, 1, (some .boolean), [], false)
theorem okX9_isValue : hb_okS mX9_isValue 1 := ⟨⟨hb_w 11 (by decide +kernel) (by decide +kernel), hb_w 1799 (by decide +kernel) (by decide +kernel), ⟨by decide +kernel, by decide +kernel, by decide +kernel⟩, by decide⟩, hb_w 1798 (by decide +kernel) (by decide +kernel)⟩
set_option maxHeartbeats 4000000 in
set_option maxRecDepth 20000 in
theorem c_X9_isValue {G : hb_G} {l : Launch} {z : Bool} {x0 : Int32} {σ : hb_M} {r : (Int32 × hb_M)} (h : f_X9_isValue x0 σ = some r) : hb_Call G l z 0 0 0 mX9_isValue [.int x0] σ (.inl (some (.int r.1)), r.2) := by
  refine hb_met (by decide) (Nat.le_of_ble_eq_true rfl) ?_
  unfold f_X9_isValue at h
  refine hs_iload_n dX9_isValue_0 0 rfl ?_
  refine hs_bipush (v := (115 : Int32)) dX9_isValue_1 (by decide) ?_
  refine hs_icmp_eq (tgt := 48) dX9_isValue_3 (by decide) (fun hc1 => ?_) (fun hc1 => ?_)
  · rw [if_pos hc1] at h
    refine hs_iconst (v := (1 : Int32)) dX9_isValue_48 (by decide) ?_
    refine hs_goto (tgt := 53) dX9_isValue_49 (by decide) ?_
    obtain rfl := Option.some.inj h
    exact hs_ireturn dX9_isValue_53 rfl (by decide) (fun _ => rfl)
  · rw [if_neg hc1] at h
    refine hs_iload_n dX9_isValue_6 0 rfl ?_
    refine hs_bipush (v := (114 : Int32)) dX9_isValue_7 (by decide) ?_
    refine hs_icmp_eq (tgt := 48) dX9_isValue_9 (by decide) (fun hc2 => ?_) (fun hc2 => ?_)
    · rw [if_pos hc2] at h
      refine hs_iconst (v := (1 : Int32)) dX9_isValue_48 (by decide) ?_
      refine hs_goto (tgt := 53) dX9_isValue_49 (by decide) ?_
      obtain rfl := Option.some.inj h
      exact hs_ireturn dX9_isValue_53 rfl (by decide) (fun _ => rfl)
    · rw [if_neg hc2] at h
      refine hs_iload_n dX9_isValue_12 0 rfl ?_
      refine hs_bipush (v := (100 : Int32)) dX9_isValue_13 (by decide) ?_
      refine hs_icmp_eq (tgt := 48) dX9_isValue_15 (by decide) (fun hc3 => ?_) (fun hc3 => ?_)
      · rw [if_pos hc3] at h
        refine hs_iconst (v := (1 : Int32)) dX9_isValue_48 (by decide) ?_
        refine hs_goto (tgt := 53) dX9_isValue_49 (by decide) ?_
        obtain rfl := Option.some.inj h
        exact hs_ireturn dX9_isValue_53 rfl (by decide) (fun _ => rfl)
      · rw [if_neg hc3] at h
        refine hs_iload_n dX9_isValue_18 0 rfl ?_
        refine hs_bipush (v := (105 : Int32)) dX9_isValue_19 (by decide) ?_
        refine hs_icmp_eq (tgt := 48) dX9_isValue_21 (by decide) (fun hc4 => ?_) (fun hc4 => ?_)
        · rw [if_pos hc4] at h
          refine hs_iconst (v := (1 : Int32)) dX9_isValue_48 (by decide) ?_
          refine hs_goto (tgt := 53) dX9_isValue_49 (by decide) ?_
          obtain rfl := Option.some.inj h
          exact hs_ireturn dX9_isValue_53 rfl (by decide) (fun _ => rfl)
        · rw [if_neg hc4] at h
          refine hs_iload_n dX9_isValue_24 0 rfl ?_
          refine hs_bipush (v := (111 : Int32)) dX9_isValue_25 (by decide) ?_
          refine hs_icmp_eq (tgt := 48) dX9_isValue_27 (by decide) (fun hc5 => ?_) (fun hc5 => ?_)
          · rw [if_pos hc5] at h
            refine hs_iconst (v := (1 : Int32)) dX9_isValue_48 (by decide) ?_
            refine hs_goto (tgt := 53) dX9_isValue_49 (by decide) ?_
            obtain rfl := Option.some.inj h
            exact hs_ireturn dX9_isValue_53 rfl (by decide) (fun _ => rfl)
          · rw [if_neg hc5] at h
            refine hs_iload_n dX9_isValue_30 0 rfl ?_
            refine hs_bipush (v := (97 : Int32)) dX9_isValue_31 (by decide) ?_
            refine hs_icmp_eq (tgt := 48) dX9_isValue_33 (by decide) (fun hc6 => ?_) (fun hc6 => ?_)
            · rw [if_pos hc6] at h
              refine hs_iconst (v := (1 : Int32)) dX9_isValue_48 (by decide) ?_
              refine hs_goto (tgt := 53) dX9_isValue_49 (by decide) ?_
              obtain rfl := Option.some.inj h
              exact hs_ireturn dX9_isValue_53 rfl (by decide) (fun _ => rfl)
            · rw [if_neg hc6] at h
              refine hs_iload_n dX9_isValue_36 0 rfl ?_
              refine hs_bipush (v := (110 : Int32)) dX9_isValue_37 (by decide) ?_
              refine hs_icmp_eq (tgt := 48) dX9_isValue_39 (by decide) (fun hc7 => ?_) (fun hc7 => ?_)
              · rw [if_pos hc7] at h
                refine hs_iconst (v := (1 : Int32)) dX9_isValue_48 (by decide) ?_
                refine hs_goto (tgt := 53) dX9_isValue_49 (by decide) ?_
                obtain rfl := Option.some.inj h
                exact hs_ireturn dX9_isValue_53 rfl (by decide) (fun _ => rfl)
              · rw [if_neg hc7] at h
                refine hs_iload_n dX9_isValue_42 0 rfl ?_
                refine hs_bipush (v := (103 : Int32)) dX9_isValue_43 (by decide) ?_
                refine hs_icmp_ne (tgt := 52) dX9_isValue_45 (by decide) (fun hc8 => ?_) (fun hc8 => ?_)
                · rw [if_neg hc8] at h
                  refine hs_iconst (v := (0 : Int32)) dX9_isValue_52 (by decide) ?_
                  obtain rfl := Option.some.inj h
                  exact hs_ireturn dX9_isValue_53 rfl (by decide) (fun _ => rfl)
                · rw [if_pos hc8] at h
                  refine hs_iconst (v := (1 : Int32)) dX9_isValue_48 (by decide) ?_
                  refine hs_goto (tgt := 53) dX9_isValue_49 (by decide) ?_
                  obtain rfl := Option.some.inj h
                  exact hs_ireturn dX9_isValue_53 rfl (by decide) (fun _ => rfl)
def mX9_unit : hb_Y := (yX9_unit, cX9_unit, 6, (some .int), [], false)
theorem okX9_unit : hb_okV mX9_unit 1 := ⟨⟨hb_w 11 (by decide +kernel) (by decide +kernel), hb_w 1785 (by decide +kernel) (by decide +kernel), ⟨by decide +kernel, by decide +kernel, by decide +kernel⟩, by decide⟩, hb_w 1784 (by decide +kernel) (by decide +kernel), hb_wp (q := (yX9_unit, 29)) 77 (by decide +kernel) (by decide +kernel)⟩
set_option maxHeartbeats 4000000 in
set_option maxRecDepth 20000 in
theorem c_X9_unit_b167 {G : hb_G} {l : Launch} {z : Bool}  {x0 : Nat} {x1 : Int32} {x2 : Int32} {x3 : Int32} {x4 : Int32} {x5 : Int32} {σ : hb_M} {r : (Int32 × hb_M)} (h : f_X9_unit_b167 x0 x1 x2 x3 x4 x5 σ = some r) : hb_T G l z mX9_unit 2 0 0 167 [(0, .ref x0), (1, .int x1), (2, .int x2), (3, .int x3), (4, .int x4), (5, .int x5)] [] σ (.inl (some (.int r.1)), r.2) := by
  unfold f_X9_unit_b167 at h
  refine hs_iload dX9_unit_167 4 rfl ?_
  refine hs_iload_n dX9_unit_169 1 rfl ?_
  refine hs_iconst (v := (2 : Int32)) dX9_unit_170 (by decide) ?_
  refine hs_iadd dX9_unit_171 ?_
  refine hs_icmp_ne (tgt := 178) dX9_unit_172 (by decide) (fun hc1 => ?_) (fun hc1 => ?_)
  · rw [if_neg hc1] at h
    refine hs_aload_n dX9_unit_178 0 rfl ?_
    refine hs_iload_n dX9_unit_179 2 rfl ?_
    refine hs_iload_n dX9_unit_180 3 rfl ?_
    refine hs_iload dX9_unit_181 5 rfl ?_
    obtain ⟨r2, h2, h⟩ := hb_bind h
    obtain ⟨h2, nf2, hb2⟩ := hb_on_at h2
    refine hs_callVv (μ' := mX9_gives) (mc := 0) (ms := 0) (rc := 0) (rs := 0) (As := [.int x2, .int x3, .int x5]) (rest := []) (ci := 9) dX9_unit_183 lmX9_257 okX9_gives rfl (by decide) rfl (Nat.le_of_ble_eq_true rfl) rfl hb2 (c_X9_gives h2) ?_
    refine hs_aload_n dX9_unit_186 0 rfl ?_
    refine hs_iload dX9_unit_187 4 rfl ?_
    obtain ⟨r3, h3, h⟩ := hb_bind h
    refine hs_putI dX9_unit_189 lpX9_unit_264 rfl h3 ?_
    refine hs_iconst (v := (-1 : Int32)) dX9_unit_192 (by decide) ?_
    obtain rfl := Option.some.inj h
    exact hs_ireturn dX9_unit_193 rfl (by rfl) (fun _ => rfl)
  · rw [if_pos hc1] at h
    refine hs_iload dX9_unit_175 4 rfl ?_
    obtain rfl := Option.some.inj h
    exact hs_ireturn dX9_unit_177 rfl (by rfl) (fun _ => rfl)
set_option maxHeartbeats 4000000 in
set_option maxRecDepth 20000 in
theorem c_X9_unit_b123 {G : hb_G} {l : Launch} {z : Bool} : ∀ (n : Nat) (x0 : Nat) (x1 : Int32) (x2 : Int32) (x3 : Int32) (x4 : Int32) (x5 : Int32) (σ : hb_M) (r : (Int32 × hb_M)), f_X9_unit_b123 n x0 x1 x2 x3 x4 x5 σ = some r → hb_T G l z mX9_unit 2 0 0 123 [(0, .ref x0), (1, .int x1), (2, .int x2), (3, .int x3), (4, .int x4), (5, .int x5)] [] σ (.inl (some (.int r.1)), r.2) := by
  intro n
  induction n with
  | zero =>
    intro x0 x1 x2 x3 x4 x5 σ r h
    cases h
  | succ n ih =>
    intro x0 x1 x2 x3 x4 x5 σ r h
    rw [f_X9_unit_b123] at h
    refine hs_iload dX9_unit_123 4 rfl ?_
    refine hs_iload_n dX9_unit_125 1 rfl ?_
    refine hs_bipush (v := (6 : Int32)) dX9_unit_126 (by decide) ?_
    refine hs_iadd dX9_unit_128 ?_
    refine hs_icmp_ge (tgt := 167) dX9_unit_129 (by decide) (fun hc1 => ?_) (fun hc1 => ?_)
    · rw [if_pos hc1] at h
      refine hs_sub (lv' := [(0, .ref x0), (1, .int x1), (2, .int x2), (3, .int x3), (4, .int x4), (5, .int x5)]) [0, 1, 2, 3, 4, 5] rfl ?_
      exact c_X9_unit_b167 h
    · rw [if_neg hc1] at h
      refine hs_aload_n dX9_unit_132 0 rfl ?_
      refine hs_iload dX9_unit_133 4 rfl ?_
      obtain ⟨r2, h2, h⟩ := hb_bind h
      obtain ⟨h2, nf2, hb2⟩ := hb_on_at h2
      refine hs_callVi (μ' := mX9_letter) (mc := 0) (ms := 0) (rc := 0) (rs := 0) (As := [.int x4]) (rest := []) (ci := 9) dX9_unit_135 lmX9_261 okX9_letter rfl (by decide) rfl (Nat.le_of_ble_eq_true rfl) rfl hb2 (c_X9_letter h2) ?_
      obtain ⟨r3, h3, h⟩ := hb_bind h
      refine hs_callSi (μ' := mX9_isDigit) (mc := 0) (ms := 0) (rc := 0) (rs := 0) (As := [.int r2.1]) (rest := []) dX9_unit_138 lmX9_267 okX9_isDigit rfl (by decide) rfl (Nat.le_of_ble_eq_true rfl) (c_X9_isDigit h3) ?_
      refine hs_if_eq (tgt := 167) dX9_unit_141 (by decide) (fun hc4 => ?_) (fun hc4 => ?_)
      · rw [if_pos hc4] at h
        refine hs_sub (lv' := [(0, .ref x0), (1, .int x1), (2, .int x2), (3, .int x3), (4, .int x4), (5, .int x5)]) [0, 1, 2, 3, 4, 5] rfl ?_
        exact c_X9_unit_b167 h
      · rw [if_neg hc4] at h
        refine hs_bipush (v := (10 : Int32)) dX9_unit_144 (by decide) ?_
        refine hs_iload dX9_unit_146 5 rfl ?_
        refine hs_imul dX9_unit_148 ?_
        refine hs_aload_n dX9_unit_149 0 rfl ?_
        refine hs_iload dX9_unit_150 4 rfl ?_
        obtain ⟨r5, h5, h⟩ := hb_bind h
        obtain ⟨h5, nf5, hb5⟩ := hb_on_at h5
        refine hs_callVi (μ' := mX9_letter) (mc := 0) (ms := 0) (rc := 0) (rs := 0) (As := [.int x4]) (rest := [.int ((10 : Int32) * x5)]) (ci := 9) dX9_unit_152 lmX9_261 okX9_letter rfl (by decide) rfl (Nat.le_of_ble_eq_true rfl) rfl hb5 (c_X9_letter h5) ?_
        refine hs_iadd dX9_unit_155 ?_
        refine hs_bipush (v := (48 : Int32)) dX9_unit_156 (by decide) ?_
        refine hs_isub dX9_unit_158 ?_
        refine hs_istore (lv' := [(5, .int ((((10 : Int32) * x5) + r5.1) - (48 : Int32))), (0, .ref x0), (1, .int x1), (2, .int x2), (3, .int x3), (4, .int x4)]) dX9_unit_159 (by decide) rfl ?_
        refine hs_iinc2 (k := (1 : Int32)) (lv' := [(4, .int (x4 + (1 : Int32))), (5, .int ((((10 : Int32) * x5) + r5.1) - (48 : Int32))), (0, .ref x0), (1, .int x1), (2, .int x2), (3, .int x3)]) dX9_unit_161 (by decide) 5 rfl (by decide) rfl ?_
        refine hs_goto (tgt := 123) dX9_unit_164 (by decide) ?_
        refine hs_sub (lv' := [(0, .ref x0), (1, .int x1), (2, .int x2), (3, .int x3), (4, .int (x4 + (1 : Int32))), (5, .int ((((10 : Int32) * x5) + r5.1) - (48 : Int32)))]) [2, 3, 4, 5, 0, 1] rfl ?_
        exact ih _ _ _ _ _ _ _ _ h
set_option maxHeartbeats 4000000 in
set_option maxRecDepth 20000 in
theorem c_X9_unit_b115 {G : hb_G} {l : Launch} {z : Bool}  {x0 : Nat} {x1 : Int32} {x2 : Int32} {x3 : Int32} {σ : hb_M} {r : (Int32 × hb_M)} (h : f_X9_unit_b115 x0 x1 x2 x3 σ = some r) : hb_T G l z mX9_unit 2 0 0 115 [(0, .ref x0), (1, .int x1), (2, .int x2), (3, .int x3)] [] σ (.inl (some (.int r.1)), r.2) := by
  unfold f_X9_unit_b115 at h
  refine hs_iload_n dX9_unit_115 1 rfl ?_
  refine hs_iconst (v := (2 : Int32)) dX9_unit_116 (by decide) ?_
  refine hs_iadd dX9_unit_117 ?_
  refine hs_istore (lv' := [(4, .int (x1 + (2 : Int32))), (0, .ref x0), (1, .int x1), (2, .int x2), (3, .int x3)]) dX9_unit_118 (by decide) rfl ?_
  refine hs_iconst (v := (0 : Int32)) dX9_unit_120 (by decide) ?_
  refine hs_istore (lv' := [(5, .int (0 : Int32)), (4, .int (x1 + (2 : Int32))), (0, .ref x0), (1, .int x1), (2, .int x2), (3, .int x3)]) dX9_unit_121 (by decide) rfl ?_
  refine hs_sub (lv' := [(0, .ref x0), (1, .int x1), (2, .int x2), (3, .int x3), (4, .int (x1 + (2 : Int32))), (5, .int (0 : Int32))]) [2, 3, 4, 5, 1, 0] rfl ?_
  exact c_X9_unit_b123 hb_FU _ _ _ _ _ _ _ _ h
set_option maxHeartbeats 4000000 in
set_option maxRecDepth 20000 in
theorem c_X9_unit {G : hb_G} {l : Launch} {z : Bool} {x0 : Nat} {x1 : Int32} {σ : hb_M} {r : (Int32 × hb_M)} (h : f_X9_unit x0 x1 σ = some r) : hb_Call G l z 2 0 0 mX9_unit [.ref x0, .int x1] σ (.inl (some (.int r.1)), r.2) := by
  refine hb_met (by decide) (Nat.le_of_ble_eq_true rfl) ?_
  unfold f_X9_unit at h
  refine hs_aload_n dX9_unit_0 0 rfl ?_
  refine hs_iload_n dX9_unit_1 1 rfl ?_
  obtain ⟨r1, h1, h⟩ := hb_bind h
  obtain ⟨h1, nf1, hb1⟩ := hb_on_at h1
  refine hs_callVi (μ' := mX9_letter) (mc := 0) (ms := 0) (rc := 0) (rs := 0) (As := [.int x1]) (rest := []) (ci := 9) dX9_unit_2 lmX9_261 okX9_letter rfl (by decide) rfl (Nat.le_of_ble_eq_true rfl) rfl hb1 (c_X9_letter h1) ?_
  refine hs_istore_n (lv' := [(2, .int r1.1), (0, .ref x0), (1, .int x1)]) dX9_unit_5 (by decide) rfl ?_
  refine hs_iload_n dX9_unit_6 0 rfl ?_
  refine hs_bipush (v := (42 : Int32)) dX9_unit_7 (by decide) ?_
  refine hs_icmp_ne (tgt := 28) dX9_unit_9 (by decide) (fun hc2 => ?_) (fun hc2 => ?_)
  · rw [if_neg hc2] at h
    refine hs_iload_n dX9_unit_28 0 rfl ?_
    refine hs_bipush (v := (64 : Int32)) dX9_unit_29 (by decide) ?_
    refine hs_icmp_ne (tgt := 76) dX9_unit_31 (by decide) (fun hc3 => ?_) (fun hc3 => ?_)
    · rw [if_neg hc3] at h
      refine hs_iload_n dX9_unit_76 0 rfl ?_
      obtain ⟨r4, h4, h⟩ := hb_bind h
      refine hs_callSi (μ' := mX9_isValue) (mc := 0) (ms := 0) (rc := 0) (rs := 0) (As := [.int r1.1]) (rest := []) dX9_unit_77 lmX9_270 okX9_isValue rfl (by decide) rfl (Nat.le_of_ble_eq_true rfl) (c_X9_isValue h4) ?_
      refine hs_if_ne (tgt := 85) dX9_unit_80 (by decide) (fun hc5 => ?_) (fun hc5 => ?_)
      · rw [if_neg hc5] at h
        refine hs_aload_n dX9_unit_85 1 rfl ?_
        refine hs_iload_n dX9_unit_86 2 rfl ?_
        refine hs_iconst (v := (1 : Int32)) dX9_unit_87 (by decide) ?_
        refine hs_iadd dX9_unit_88 ?_
        obtain ⟨r6, h6, h⟩ := hb_bind h
        obtain ⟨h6, nf6, hb6⟩ := hb_on_at h6
        refine hs_callVi (μ' := mX9_letter) (mc := 0) (ms := 0) (rc := 0) (rs := 0) (As := [.int (x1 + (1 : Int32))]) (rest := []) (ci := 9) dX9_unit_89 lmX9_261 okX9_letter rfl (by decide) rfl (Nat.le_of_ble_eq_true rfl) rfl hb6 (c_X9_letter h6) ?_
        refine hs_istore_n (lv' := [(3, .int r6.1), (2, .int r1.1), (0, .ref x0), (1, .int x1)]) dX9_unit_92 (by decide) rfl ?_
        refine hs_iload_n dX9_unit_93 0 rfl ?_
        refine hs_bipush (v := (60 : Int32)) dX9_unit_94 (by decide) ?_
        refine hs_icmp_eq (tgt := 115) dX9_unit_96 (by decide) (fun hc7 => ?_) (fun hc7 => ?_)
        · rw [if_pos hc7] at h
          refine hs_sub (lv' := [(0, .ref x0), (1, .int x1), (2, .int r1.1), (3, .int r6.1)]) [2, 3, 1, 0] rfl ?_
          exact c_X9_unit_b115 h
        · rw [if_neg hc7] at h
          refine hs_iload_n dX9_unit_99 0 rfl ?_
          refine hs_bipush (v := (61 : Int32)) dX9_unit_100 (by decide) ?_
          refine hs_icmp_eq (tgt := 115) dX9_unit_102 (by decide) (fun hc8 => ?_) (fun hc8 => ?_)
          · rw [if_pos hc8] at h
            refine hs_sub (lv' := [(0, .ref x0), (1, .int x1), (2, .int r1.1), (3, .int r6.1)]) [2, 3, 1, 0] rfl ?_
            exact c_X9_unit_b115 h
          · rw [if_neg hc8] at h
            refine hs_iload_n dX9_unit_105 0 rfl ?_
            refine hs_bipush (v := (62 : Int32)) dX9_unit_106 (by decide) ?_
            refine hs_icmp_eq (tgt := 115) dX9_unit_108 (by decide) (fun hc9 => ?_) (fun hc9 => ?_)
            · rw [if_pos hc9] at h
              refine hs_sub (lv' := [(0, .ref x0), (1, .int x1), (2, .int r1.1), (3, .int r6.1)]) [2, 3, 1, 0] rfl ?_
              exact c_X9_unit_b115 h
            · rw [if_neg hc9] at h
              refine hs_iload_n dX9_unit_111 3 rfl ?_
              refine hs_iconst (v := (1 : Int32)) dX9_unit_112 (by decide) ?_
              refine hs_iadd dX9_unit_113 ?_
              obtain rfl := Option.some.inj h
              exact hs_ireturn dX9_unit_114 rfl (by rfl) (fun _ => rfl)
      · rw [if_pos hc5] at h
        refine hs_iload_n dX9_unit_83 2 rfl ?_
        obtain rfl := Option.some.inj h
        exact hs_ireturn dX9_unit_84 rfl (by rfl) (fun _ => rfl)
    · rw [if_pos hc3] at h
      refine hs_aload_n dX9_unit_34 1 rfl ?_
      refine hs_iload_n dX9_unit_35 2 rfl ?_
      refine hs_iconst (v := (1 : Int32)) dX9_unit_36 (by decide) ?_
      refine hs_iadd dX9_unit_37 ?_
      obtain ⟨r10, h10, h⟩ := hb_bind h
      obtain ⟨h10, nf10, hb10⟩ := hb_on_at h10
      refine hs_callVi (μ' := mX9_letter) (mc := 0) (ms := 0) (rc := 0) (rs := 0) (As := [.int (x1 + (1 : Int32))]) (rest := []) (ci := 9) dX9_unit_38 lmX9_261 okX9_letter rfl (by decide) rfl (Nat.le_of_ble_eq_true rfl) rfl hb10 (c_X9_letter h10) ?_
      obtain ⟨r11, h11, h⟩ := hb_bind h
      refine hs_callSi (μ' := mX9_isDigit) (mc := 0) (ms := 0) (rc := 0) (rs := 0) (As := [.int r10.1]) (rest := []) dX9_unit_41 lmX9_267 okX9_isDigit rfl (by decide) rfl (Nat.le_of_ble_eq_true rfl) (c_X9_isDigit h11) ?_
      refine hs_if_ne (tgt := 51) dX9_unit_44 (by decide) (fun hc12 => ?_) (fun hc12 => ?_)
      · rw [if_neg hc12] at h
        refine hs_aload_n dX9_unit_51 1 rfl ?_
        refine hs_iload_n dX9_unit_52 0 rfl ?_
        refine hs_iconst (v := (0 : Int32)) dX9_unit_53 (by decide) ?_
        refine hs_aload_n dX9_unit_54 1 rfl ?_
        refine hs_iload_n dX9_unit_55 2 rfl ?_
        refine hs_iconst (v := (1 : Int32)) dX9_unit_56 (by decide) ?_
        refine hs_iadd dX9_unit_57 ?_
        obtain ⟨r13, h13, h⟩ := hb_bind h
        obtain ⟨h13, nf13, hb13⟩ := hb_on_at h13
        refine hs_callVi (μ' := mX9_letter) (mc := 0) (ms := 0) (rc := 0) (rs := 0) (As := [.int (x1 + (1 : Int32))]) (rest := [.int (0 : Int32), .int r1.1, .ref x0]) (ci := 9) dX9_unit_58 lmX9_261 okX9_letter rfl (by decide) rfl (Nat.le_of_ble_eq_true rfl) rfl hb13 (c_X9_letter h13) ?_
        refine hs_bipush (v := (48 : Int32)) dX9_unit_61 (by decide) ?_
        refine hs_isub dX9_unit_63 ?_
        obtain ⟨r14, h14, h⟩ := hb_bind h
        obtain ⟨h14, nf14, hb14⟩ := hb_on_at h14
        refine hs_callVv (μ' := mX9_gives) (mc := 0) (ms := 0) (rc := 0) (rs := 0) (As := [.int r1.1, .int (0 : Int32), .int (r13.1 - (48 : Int32))]) (rest := []) (ci := 9) dX9_unit_64 lmX9_257 okX9_gives rfl (by decide) rfl (Nat.le_of_ble_eq_true rfl) rfl hb14 (c_X9_gives h14) ?_
        refine hs_aload_n dX9_unit_67 1 rfl ?_
        refine hs_iload_n dX9_unit_68 2 rfl ?_
        refine hs_iconst (v := (2 : Int32)) dX9_unit_69 (by decide) ?_
        refine hs_iadd dX9_unit_70 ?_
        obtain ⟨r15, h15, h⟩ := hb_bind h
        refine hs_putI dX9_unit_71 lpX9_unit_264 rfl h15 ?_
        refine hs_iconst (v := (-1 : Int32)) dX9_unit_74 (by decide) ?_
        obtain rfl := Option.some.inj h
        exact hs_ireturn dX9_unit_75 rfl (by rfl) (fun _ => rfl)
      · rw [if_pos hc12] at h
        refine hs_iload_n dX9_unit_47 2 rfl ?_
        refine hs_iconst (v := (1 : Int32)) dX9_unit_48 (by decide) ?_
        refine hs_iadd dX9_unit_49 ?_
        obtain rfl := Option.some.inj h
        exact hs_ireturn dX9_unit_50 rfl (by rfl) (fun _ => rfl)
  · rw [if_pos hc2] at h
    refine hs_aload_n dX9_unit_12 1 rfl ?_
    refine hs_iload_n dX9_unit_13 0 rfl ?_
    refine hs_iconst (v := (0 : Int32)) dX9_unit_14 (by decide) ?_
    refine hs_iconst (v := (0 : Int32)) dX9_unit_15 (by decide) ?_
    obtain ⟨r16, h16, h⟩ := hb_bind h
    obtain ⟨h16, nf16, hb16⟩ := hb_on_at h16
    refine hs_callVv (μ' := mX9_gives) (mc := 0) (ms := 0) (rc := 0) (rs := 0) (As := [.int r1.1, .int (0 : Int32), .int (0 : Int32)]) (rest := []) (ci := 9) dX9_unit_16 lmX9_257 okX9_gives rfl (by decide) rfl (Nat.le_of_ble_eq_true rfl) rfl hb16 (c_X9_gives h16) ?_
    refine hs_aload_n dX9_unit_19 1 rfl ?_
    refine hs_iload_n dX9_unit_20 2 rfl ?_
    refine hs_iconst (v := (1 : Int32)) dX9_unit_21 (by decide) ?_
    refine hs_iadd dX9_unit_22 ?_
    obtain ⟨r17, h17, h⟩ := hb_bind h
    refine hs_putI dX9_unit_23 lpX9_unit_264 rfl h17 ?_
    refine hs_iconst (v := (-1 : Int32)) dX9_unit_26 (by decide) ?_
    obtain rfl := Option.some.inj h
    exact hs_ireturn dX9_unit_27 rfl (by rfl) (fun _ => rfl)
def mX9_reads : hb_Y := (yX9_reads, cX9_reads, 6, (some .int), [], false)
theorem okX9_reads : hb_okV mX9_reads 0 := ⟨⟨hb_w 11 (by decide +kernel) (by decide +kernel), hb_w 1777 (by decide +kernel) (by decide +kernel), ⟨by decide +kernel, by decide +kernel, by decide +kernel⟩, by decide⟩, hb_w 1776 (by decide +kernel) (by decide +kernel), hb_wp (q := (yX9_reads, 29)) 75 (by decide +kernel) (by decide +kernel)⟩
set_option maxHeartbeats 4000000 in
set_option maxRecDepth 20000 in
theorem c_X9_reads_b236 {G : hb_G} {l : Launch} {z : Bool}  (k16 : Nat → Int32 → Int32 → Int32 → hb_M → Option (Int32 × hb_M)) (hk16 : ∀ (x0 : Nat) (x1 : Int32) (x2 : Int32) (x3 : Int32) (σ : hb_M) (r : (Int32 × hb_M)), k16 x0 x1 x2 x3 σ = some r → hb_T G l z mX9_reads 3 0 0 16 [(0, .ref x0), (1, .int x1), (2, .int x2), (3, .int x3)] [] σ (.inl (some (.int r.1)), r.2))  {x0 : Nat} {x1 : Int32} {x2 : Int32} {x3 : Int32} {σ : hb_M} {r : (Int32 × hb_M)} (h : f_X9_reads_b236 k16 x0 x1 x2 x3 σ = some r) : hb_T G l z mX9_reads 3 0 0 236 [(0, .ref x0), (1, .int x1), (2, .int x2), (3, .int x3)] [] σ (.inl (some (.int r.1)), r.2) := by
  unfold f_X9_reads_b236 at h
  refine hs_goto (tgt := 16) dX9_reads_236 (by decide) ?_
  refine hs_sub (lv' := [(0, .ref x0), (1, .int x1), (2, .int x2), (3, .int x3)]) [0, 1, 2, 3] rfl ?_
  exact hk16 _ _ _ _ _ _ h
set_option maxHeartbeats 4000000 in
set_option maxRecDepth 20000 in
theorem c_X9_reads_b179 {G : hb_G} {l : Launch} {z : Bool}  (k16 : Nat → Int32 → Int32 → Int32 → hb_M → Option (Int32 × hb_M)) (hk16 : ∀ (x0 : Nat) (x1 : Int32) (x2 : Int32) (x3 : Int32) (σ : hb_M) (r : (Int32 × hb_M)), k16 x0 x1 x2 x3 σ = some r → hb_T G l z mX9_reads 3 0 0 16 [(0, .ref x0), (1, .int x1), (2, .int x2), (3, .int x3)] [] σ (.inl (some (.int r.1)), r.2))  {x0 : Nat} {x1 : Int32} {x3 : Int32} {s0 : Nat} {s1 : Int32} {σ : hb_M} {r : (Int32 × hb_M)} (h : f_X9_reads_b179 k16 x0 x1 x3 s0 s1 σ = some r) : hb_T G l z mX9_reads 3 0 0 179 [(0, .ref x0), (1, .int x1), (3, .int x3)] [.int s1, .ref s0] σ (.inl (some (.int r.1)), r.2) := by
  unfold f_X9_reads_b179 at h
  obtain ⟨r1, h1, h⟩ := hb_bind h
  obtain ⟨h1, nf1, hb1⟩ := hb_on_at h1
  refine hs_callVv (μ' := mX9_waits) (mc := 0) (ms := 0) (rc := 0) (rs := 0) (As := [.int s1]) (rest := []) (ci := 9) dX9_reads_179 lmX9_273 okX9_waits rfl (by decide) rfl (Nat.le_of_ble_eq_true rfl) rfl hb1 (c_X9_waits h1) ?_
  refine hs_iconst (v := (1 : Int32)) dX9_reads_182 (by decide) ?_
  refine hs_istore_n (lv' := [(2, .int (1 : Int32)), (0, .ref x0), (1, .int x1), (3, .int x3)]) dX9_reads_183 (by decide) rfl ?_
  refine hs_iinc2 (k := (1 : Int32)) (lv' := [(3, .int (x3 + (1 : Int32))), (2, .int (1 : Int32)), (0, .ref x0), (1, .int x1)]) dX9_reads_184 (by decide) 3 rfl (by decide) rfl ?_
  refine hs_goto (tgt := 236) dX9_reads_187 (by decide) ?_
  refine hs_sub (lv' := [(0, .ref x0), (1, .int x1), (2, .int (1 : Int32)), (3, .int (x3 + (1 : Int32)))]) [2, 3, 1, 0] rfl ?_
  exact c_X9_reads_b236 k16 hk16 h
set_option maxHeartbeats 4000000 in
set_option maxRecDepth 20000 in
theorem c_X9_reads_b159 {G : hb_G} {l : Launch} {z : Bool}  (k16 : Nat → Int32 → Int32 → Int32 → hb_M → Option (Int32 × hb_M)) (hk16 : ∀ (x0 : Nat) (x1 : Int32) (x2 : Int32) (x3 : Int32) (σ : hb_M) (r : (Int32 × hb_M)), k16 x0 x1 x2 x3 σ = some r → hb_T G l z mX9_reads 3 0 0 16 [(0, .ref x0), (1, .int x1), (2, .int x2), (3, .int x3)] [] σ (.inl (some (.int r.1)), r.2))  {x0 : Nat} {x1 : Int32} {x3 : Int32} {x4 : Int32} {s0 : Nat} {s1 : Int32} {σ : hb_M} {r : (Int32 × hb_M)} (h : f_X9_reads_b159 k16 x0 x1 x3 x4 s0 s1 σ = some r) : hb_T G l z mX9_reads 3 0 0 159 [(0, .ref x0), (1, .int x1), (3, .int x3), (4, .int x4)] [.int s1, .ref s0] σ (.inl (some (.int r.1)), r.2) := by
  unfold f_X9_reads_b159 at h
  obtain ⟨r1, h1, h⟩ := hb_bind h
  obtain ⟨h1, nf1, hb1⟩ := hb_on_at h1
  refine hs_callVv (μ' := mX9_comesOut) (mc := 0) (ms := 0) (rc := 0) (rs := 0) (As := [.int s1]) (rest := []) (ci := 9) dX9_reads_159 lmX9_280 okX9_comesOut rfl (by decide) rfl (Nat.le_of_ble_eq_true rfl) rfl hb1 (c_X9_comesOut h1) ?_
  refine hs_aload_n dX9_reads_162 0 rfl ?_
  refine hs_iload dX9_reads_163 3 rfl ?_
  refine hs_bipush (v := (38 : Int32)) dX9_reads_165 (by decide) ?_
  refine hs_icmp_ne (tgt := 176) dX9_reads_167 (by decide) (fun hc2 => ?_) (fun hc2 => ?_)
  · rw [if_neg hc2] at h
    refine hs_sipush (v := (202 : Int32)) dX9_reads_176 (by decide) ?_
    refine hs_sub (lv' := [(0, .ref x0), (1, .int x1), (3, .int x3)]) [0, 1, 2] rfl ?_
    exact c_X9_reads_b179 k16 hk16 h
  · rw [if_pos hc2] at h
    refine hs_sipush (v := (201 : Int32)) dX9_reads_170 (by decide) ?_
    refine hs_goto (tgt := 179) dX9_reads_173 (by decide) ?_
    refine hs_sub (lv' := [(0, .ref x0), (1, .int x1), (3, .int x3)]) [0, 1, 2] rfl ?_
    exact c_X9_reads_b179 k16 hk16 h
set_option maxHeartbeats 4000000 in
set_option maxRecDepth 20000 in
theorem c_X9_reads_b142 {G : hb_G} {l : Launch} {z : Bool}  (k16 : Nat → Int32 → Int32 → Int32 → hb_M → Option (Int32 × hb_M)) (hk16 : ∀ (x0 : Nat) (x1 : Int32) (x2 : Int32) (x3 : Int32) (σ : hb_M) (r : (Int32 × hb_M)), k16 x0 x1 x2 x3 σ = some r → hb_T G l z mX9_reads 3 0 0 16 [(0, .ref x0), (1, .int x1), (2, .int x2), (3, .int x3)] [] σ (.inl (some (.int r.1)), r.2))  {x0 : Nat} {x1 : Int32} {x3 : Int32} {x4 : Int32} {σ : hb_M} {r : (Int32 × hb_M)} (h : f_X9_reads_b142 k16 x0 x1 x3 x4 σ = some r) : hb_T G l z mX9_reads 3 0 0 142 [(0, .ref x0), (1, .int x1), (3, .int x3), (4, .int x4)] [] σ (.inl (some (.int r.1)), r.2) := by
  unfold f_X9_reads_b142 at h
  refine hs_aload_n dX9_reads_142 0 rfl ?_
  refine hs_iload dX9_reads_143 3 rfl ?_
  refine hs_bipush (v := (38 : Int32)) dX9_reads_145 (by decide) ?_
  refine hs_icmp_ne (tgt := 156) dX9_reads_147 (by decide) (fun hc1 => ?_) (fun hc1 => ?_)
  · rw [if_neg hc1] at h
    refine hs_sipush (v := (202 : Int32)) dX9_reads_156 (by decide) ?_
    refine hs_sub (lv' := [(0, .ref x0), (1, .int x1), (3, .int x3), (4, .int x4)]) [0, 1, 2, 3] rfl ?_
    exact c_X9_reads_b159 k16 hk16 h
  · rw [if_pos hc1] at h
    refine hs_sipush (v := (201 : Int32)) dX9_reads_150 (by decide) ?_
    refine hs_goto (tgt := 159) dX9_reads_153 (by decide) ?_
    refine hs_sub (lv' := [(0, .ref x0), (1, .int x1), (3, .int x3), (4, .int x4)]) [0, 1, 2, 3] rfl ?_
    exact c_X9_reads_b159 k16 hk16 h
set_option maxHeartbeats 4000000 in
set_option maxRecDepth 20000 in
theorem c_X9_reads_b91 {G : hb_G} {l : Launch} {z : Bool}  (k16 : Nat → Int32 → Int32 → Int32 → hb_M → Option (Int32 × hb_M)) (hk16 : ∀ (x0 : Nat) (x1 : Int32) (x2 : Int32) (x3 : Int32) (σ : hb_M) (r : (Int32 × hb_M)), k16 x0 x1 x2 x3 σ = some r → hb_T G l z mX9_reads 3 0 0 16 [(0, .ref x0), (1, .int x1), (2, .int x2), (3, .int x3)] [] σ (.inl (some (.int r.1)), r.2))  {x0 : Nat} {x1 : Int32} {x2 : Int32} {x3 : Int32} {x4 : Int32} {σ : hb_M} {r : (Int32 × hb_M)} (h : f_X9_reads_b91 k16 x0 x1 x2 x3 x4 σ = some r) : hb_T G l z mX9_reads 3 0 0 91 [(0, .ref x0), (1, .int x1), (2, .int x2), (3, .int x3), (4, .int x4)] [] σ (.inl (some (.int r.1)), r.2) := by
  unfold f_X9_reads_b91 at h
  refine hs_iload_n dX9_reads_91 2 rfl ?_
  refine hs_if_eq (tgt := 128) dX9_reads_92 (by decide) (fun hc1 => ?_) (fun hc1 => ?_)
  · rw [if_pos hc1] at h
    refine hs_iload dX9_reads_128 4 rfl ?_
    refine hs_bipush (v := (38 : Int32)) dX9_reads_130 (by decide) ?_
    refine hs_icmp_eq (tgt := 142) dX9_reads_132 (by decide) (fun hc2 => ?_) (fun hc2 => ?_)
    · rw [if_pos hc2] at h
      refine hs_sub (lv' := [(0, .ref x0), (1, .int x1), (3, .int x3), (4, .int x4)]) [0, 1, 3, 4] rfl ?_
      exact c_X9_reads_b142 k16 hk16 h
    · rw [if_neg hc2] at h
      refine hs_iload dX9_reads_135 4 rfl ?_
      refine hs_bipush (v := (124 : Int32)) dX9_reads_137 (by decide) ?_
      refine hs_icmp_ne (tgt := 190) dX9_reads_139 (by decide) (fun hc3 => ?_) (fun hc3 => ?_)
      · rw [if_neg hc3] at h
        refine hs_iload dX9_reads_190 4 rfl ?_
        refine hs_bipush (v := (41 : Int32)) dX9_reads_192 (by decide) ?_
        refine hs_icmp_ne (tgt := 234) dX9_reads_194 (by decide) (fun hc4 => ?_) (fun hc4 => ?_)
        · rw [if_neg hc4] at h
          refine hs_iload_n dX9_reads_234 3 rfl ?_
          obtain rfl := Option.some.inj h
          exact hs_ireturn dX9_reads_235 rfl (by rfl) (fun _ => rfl)
        · rw [if_pos hc4] at h
          refine hs_iload_n dX9_reads_197 1 rfl ?_
          refine hs_if_le (tgt := 234) dX9_reads_198 (by decide) (fun hc5 => ?_) (fun hc5 => ?_)
          · rw [if_pos hc5] at h
            refine hs_iload_n dX9_reads_234 3 rfl ?_
            obtain rfl := Option.some.inj h
            exact hs_ireturn dX9_reads_235 rfl (by rfl) (fun _ => rfl)
          · rw [if_neg hc5] at h
            refine hs_aload_n dX9_reads_201 0 rfl ?_
            refine hs_sipush (v := (202 : Int32)) dX9_reads_202 (by decide) ?_
            obtain ⟨r6, h6, h⟩ := hb_bind h
            obtain ⟨h6, nf6, hb6⟩ := hb_on_at h6
            refine hs_callVv (μ' := mX9_comesOut) (mc := 0) (ms := 0) (rc := 0) (rs := 0) (As := [.int (202 : Int32)]) (rest := []) (ci := 9) dX9_reads_205 lmX9_280 okX9_comesOut rfl (by decide) rfl (Nat.le_of_ble_eq_true rfl) rfl hb6 (c_X9_comesOut h6) ?_
            refine hs_aload_n dX9_reads_208 0 rfl ?_
            refine hs_dup dX9_reads_209 rfl ?_
            obtain ⟨r7, h7, h⟩ := hb_bind h
            refine hs_getI dX9_reads_210 lkX9_254 rfl h7 ?_
            refine hs_iconst (v := (1 : Int32)) dX9_reads_213 (by decide) ?_
            refine hs_isub dX9_reads_214 ?_
            obtain ⟨r8, h8, h⟩ := hb_bind h
            refine hs_putI dX9_reads_215 lpX9_reads_254 rfl h8 ?_
            refine hs_iinc2 (k := (-1 : Int32)) (lv' := [(1, .int (x1 + (-1 : Int32))), (0, .ref x0), (2, .int x2), (3, .int x3), (4, .int x4)]) dX9_reads_218 (by decide) 1 rfl (by decide) rfl ?_
            refine hs_aload_n dX9_reads_221 1 rfl ?_
            refine hs_sipush (v := (200 : Int32)) dX9_reads_222 (by decide) ?_
            obtain ⟨r9, h9, h⟩ := hb_bind h
            obtain ⟨h9, nf9, hb9⟩ := hb_on_at h9
            refine hs_callVv (μ' := mX9_comesOut) (mc := 0) (ms := 0) (rc := 0) (rs := 0) (As := [.int (200 : Int32)]) (rest := []) (ci := 9) dX9_reads_225 lmX9_280 okX9_comesOut rfl (by decide) rfl (Nat.le_of_ble_eq_true rfl) rfl hb9 (c_X9_comesOut h9) ?_
            refine hs_iinc2 (k := (1 : Int32)) (lv' := [(3, .int (x3 + (1 : Int32))), (1, .int (x1 + (-1 : Int32))), (0, .ref x0), (2, .int x2), (4, .int x4)]) dX9_reads_228 (by decide) 3 rfl (by decide) rfl ?_
            refine hs_goto (tgt := 236) dX9_reads_231 (by decide) ?_
            refine hs_sub (lv' := [(0, .ref x0), (1, .int (x1 + (-1 : Int32))), (2, .int x2), (3, .int (x3 + (1 : Int32)))]) [2, 1, 3, 0] rfl ?_
            exact c_X9_reads_b236 k16 hk16 h
      · rw [if_pos hc3] at h
        refine hs_sub (lv' := [(0, .ref x0), (1, .int x1), (3, .int x3), (4, .int x4)]) [0, 1, 3, 4] rfl ?_
        exact c_X9_reads_b142 k16 hk16 h
  · rw [if_neg hc1] at h
    refine hs_aload_n dX9_reads_95 0 rfl ?_
    refine hs_iload_n dX9_reads_96 3 rfl ?_
    obtain ⟨r10, h10, h⟩ := hb_bind h
    obtain ⟨h10, nf10, hb10⟩ := hb_on_at h10
    refine hs_callVi (μ' := mX9_unit) (mc := 0) (ms := 0) (rc := 0) (rs := 0) (As := [.int x3]) (rest := []) (ci := 9) dX9_reads_97 lmX9_277 okX9_unit rfl (by decide) rfl (Nat.le_of_ble_eq_true rfl) rfl hb10 (c_X9_unit h10) ?_
    refine hs_istore (lv' := [(5, .int r10.1), (0, .ref x0), (1, .int x1), (2, .int x2), (3, .int x3), (4, .int x4)]) dX9_reads_100 (by decide) rfl ?_
    refine hs_iload dX9_reads_102 0 rfl ?_
    refine hs_iconst (v := (-1 : Int32)) dX9_reads_104 (by decide) ?_
    refine hs_icmp_eq (tgt := 111) dX9_reads_105 (by decide) (fun hc11 => ?_) (fun hc11 => ?_)
    · rw [if_pos hc11] at h
      refine hs_aload_n dX9_reads_111 1 rfl ?_
      obtain ⟨r12, h12, h⟩ := hb_bind h
      refine hs_getI dX9_reads_112 lkX9_264 rfl h12 ?_
      refine hs_istore_n (lv' := [(3, .int r12), (5, .int r10.1), (0, .ref x0), (1, .int x1), (2, .int x2), (4, .int x4)]) dX9_reads_115 (by decide) rfl ?_
      refine hs_aload_n dX9_reads_116 2 rfl ?_
      refine hs_sipush (v := (200 : Int32)) dX9_reads_117 (by decide) ?_
      obtain ⟨r13, h13, h⟩ := hb_bind h
      obtain ⟨h13, nf13, hb13⟩ := hb_on_at h13
      refine hs_callVv (μ' := mX9_comesOut) (mc := 0) (ms := 0) (rc := 0) (rs := 0) (As := [.int (200 : Int32)]) (rest := []) (ci := 9) dX9_reads_120 lmX9_280 okX9_comesOut rfl (by decide) rfl (Nat.le_of_ble_eq_true rfl) rfl hb13 (c_X9_comesOut h13) ?_
      refine hs_iconst (v := (0 : Int32)) dX9_reads_123 (by decide) ?_
      refine hs_istore_n (lv' := [(2, .int (0 : Int32)), (3, .int r12), (5, .int r10.1), (0, .ref x0), (1, .int x1), (4, .int x4)]) dX9_reads_124 (by decide) rfl ?_
      refine hs_goto (tgt := 236) dX9_reads_125 (by decide) ?_
      refine hs_sub (lv' := [(0, .ref x0), (1, .int x1), (2, .int (0 : Int32)), (3, .int r12)]) [3, 4, 0, 1] rfl ?_
      exact c_X9_reads_b236 k16 hk16 h
    · rw [if_neg hc11] at h
      refine hs_iload dX9_reads_108 0 rfl ?_
      obtain rfl := Option.some.inj h
      exact hs_ireturn dX9_reads_110 rfl (by rfl) (fun _ => rfl)
set_option maxHeartbeats 4000000 in
set_option maxRecDepth 20000 in
theorem c_X9_reads_b56 {G : hb_G} {l : Launch} {z : Bool}  (k16 : Nat → Int32 → Int32 → Int32 → hb_M → Option (Int32 × hb_M)) (hk16 : ∀ (x0 : Nat) (x1 : Int32) (x2 : Int32) (x3 : Int32) (σ : hb_M) (r : (Int32 × hb_M)), k16 x0 x1 x2 x3 σ = some r → hb_T G l z mX9_reads 3 0 0 16 [(0, .ref x0), (1, .int x1), (2, .int x2), (3, .int x3)] [] σ (.inl (some (.int r.1)), r.2))  {x0 : Nat} {x1 : Int32} {x2 : Int32} {x3 : Int32} {x4 : Int32} {σ : hb_M} {r : (Int32 × hb_M)} (h : f_X9_reads_b56 k16 x0 x1 x2 x3 x4 σ = some r) : hb_T G l z mX9_reads 3 0 0 56 [(0, .ref x0), (1, .int x1), (2, .int x2), (3, .int x3), (4, .int x4)] [] σ (.inl (some (.int r.1)), r.2) := by
  unfold f_X9_reads_b56 at h
  refine hs_iload_n dX9_reads_56 2 rfl ?_
  refine hs_if_eq (tgt := 91) dX9_reads_57 (by decide) (fun hc1 => ?_) (fun hc1 => ?_)
  · rw [if_pos hc1] at h
    refine hs_sub (lv' := [(0, .ref x0), (1, .int x1), (2, .int x2), (3, .int x3), (4, .int x4)]) [0, 1, 2, 3, 4] rfl ?_
    exact c_X9_reads_b91 k16 hk16 h
  · rw [if_neg hc1] at h
    refine hs_iload dX9_reads_60 4 rfl ?_
    refine hs_bipush (v := (40 : Int32)) dX9_reads_62 (by decide) ?_
    refine hs_icmp_ne (tgt := 91) dX9_reads_64 (by decide) (fun hc2 => ?_) (fun hc2 => ?_)
    · rw [if_neg hc2] at h
      refine hs_sub (lv' := [(0, .ref x0), (1, .int x1), (2, .int x2), (3, .int x3), (4, .int x4)]) [0, 1, 2, 3, 4] rfl ?_
      exact c_X9_reads_b91 k16 hk16 h
    · rw [if_pos hc2] at h
      refine hs_iload_n dX9_reads_67 1 rfl ?_
      refine hs_bipush (v := (8 : Int32)) dX9_reads_68 (by decide) ?_
      refine hs_icmp_ne (tgt := 75) dX9_reads_70 (by decide) (fun hc3 => ?_) (fun hc3 => ?_)
      · rw [if_neg hc3] at h
        refine hs_aload_n dX9_reads_75 0 rfl ?_
        refine hs_sipush (v := (203 : Int32)) dX9_reads_76 (by decide) ?_
        obtain ⟨r4, h4, h⟩ := hb_bind h
        obtain ⟨h4, nf4, hb4⟩ := hb_on_at h4
        refine hs_callVv (μ' := mX9_waits) (mc := 0) (ms := 0) (rc := 0) (rs := 0) (As := [.int (203 : Int32)]) (rest := []) (ci := 9) dX9_reads_79 lmX9_273 okX9_waits rfl (by decide) rfl (Nat.le_of_ble_eq_true rfl) rfl hb4 (c_X9_waits h4) ?_
        refine hs_iinc2 (k := (1 : Int32)) (lv' := [(1, .int (x1 + (1 : Int32))), (0, .ref x0), (2, .int x2), (3, .int x3), (4, .int x4)]) dX9_reads_82 (by decide) 1 rfl (by decide) rfl ?_
        refine hs_iinc2 (k := (1 : Int32)) (lv' := [(3, .int (x3 + (1 : Int32))), (1, .int (x1 + (1 : Int32))), (0, .ref x0), (2, .int x2), (4, .int x4)]) dX9_reads_85 (by decide) 3 rfl (by decide) rfl ?_
        refine hs_goto (tgt := 236) dX9_reads_88 (by decide) ?_
        refine hs_sub (lv' := [(0, .ref x0), (1, .int (x1 + (1 : Int32))), (2, .int x2), (3, .int (x3 + (1 : Int32)))]) [2, 1, 3, 0] rfl ?_
        exact c_X9_reads_b236 k16 hk16 h
      · rw [if_pos hc3] at h
        refine hs_iload_n dX9_reads_73 3 rfl ?_
        obtain rfl := Option.some.inj h
        exact hs_ireturn dX9_reads_74 rfl (by rfl) (fun _ => rfl)
set_option maxHeartbeats 4000000 in
set_option maxRecDepth 20000 in
theorem c_X9_reads_b16 {G : hb_G} {l : Launch} {z : Bool} : ∀ (n : Nat) (x0 : Nat) (x1 : Int32) (x2 : Int32) (x3 : Int32) (σ : hb_M) (r : (Int32 × hb_M)), f_X9_reads_b16 n x0 x1 x2 x3 σ = some r → hb_T G l z mX9_reads 3 0 0 16 [(0, .ref x0), (1, .int x1), (2, .int x2), (3, .int x3)] [] σ (.inl (some (.int r.1)), r.2) := by
  intro n
  induction n with
  | zero =>
    intro x0 x1 x2 x3 σ r h
    cases h
  | succ n ih =>
    intro x0 x1 x2 x3 σ r h
    rw [f_X9_reads_b16] at h
    refine hs_iload_n dX9_reads_16 3 rfl ?_
    refine hs_aload_n dX9_reads_17 0 rfl ?_
    obtain ⟨r1, h1, h⟩ := hb_bind h
    refine hs_getI dX9_reads_18 lkX9_248 rfl h1 ?_
    refine hs_icmp_ge (tgt := 239) dX9_reads_21 (by decide) (fun hc2 => ?_) (fun hc2 => ?_)
    · rw [if_pos hc2] at h
      refine hs_iload_n dX9_reads_239 2 rfl ?_
      refine hs_if_ne (tgt := 247) dX9_reads_240 (by decide) (fun hc3 => ?_) (fun hc3 => ?_)
      · rw [if_neg hc3] at h
        refine hs_aload_n dX9_reads_247 0 rfl ?_
        obtain ⟨r4, h4, h⟩ := hb_bind h
        refine hs_getI dX9_reads_248 lkX9_248 rfl h4 ?_
        obtain rfl := Option.some.inj h
        exact hs_ireturn dX9_reads_251 rfl (by rfl) (fun _ => rfl)
      · rw [if_pos hc3] at h
        refine hs_iload_n dX9_reads_243 1 rfl ?_
        refine hs_if_le (tgt := 252) dX9_reads_244 (by decide) (fun hc5 => ?_) (fun hc5 => ?_)
        · rw [if_pos hc5] at h
          refine hs_aload_n dX9_reads_252 0 rfl ?_
          refine hs_sipush (v := (202 : Int32)) dX9_reads_253 (by decide) ?_
          obtain ⟨r6, h6, h⟩ := hb_bind h
          obtain ⟨h6, nf6, hb6⟩ := hb_on_at h6
          refine hs_callVv (μ' := mX9_comesOut) (mc := 0) (ms := 0) (rc := 0) (rs := 0) (As := [.int (202 : Int32)]) (rest := []) (ci := 9) dX9_reads_256 lmX9_280 okX9_comesOut rfl (by decide) rfl (Nat.le_of_ble_eq_true rfl) rfl hb6 (c_X9_comesOut h6) ?_
          refine hs_iconst (v := (-1 : Int32)) dX9_reads_259 (by decide) ?_
          obtain rfl := Option.some.inj h
          exact hs_ireturn dX9_reads_260 rfl (by rfl) (fun _ => rfl)
        · rw [if_neg hc5] at h
          refine hs_aload_n dX9_reads_247 0 rfl ?_
          obtain ⟨r7, h7, h⟩ := hb_bind h
          refine hs_getI dX9_reads_248 lkX9_248 rfl h7 ?_
          obtain rfl := Option.some.inj h
          exact hs_ireturn dX9_reads_251 rfl (by rfl) (fun _ => rfl)
    · rw [if_neg hc2] at h
      refine hs_aload_n dX9_reads_24 0 rfl ?_
      obtain ⟨r8, h8, h⟩ := hb_bind h
      refine hs_getR dX9_reads_25 lkX9_19 rfl h8 ?_
      refine hs_iload_n dX9_reads_28 3 rfl ?_
      obtain ⟨r9, h9, h⟩ := hb_bind h
      refine hs_iald dX9_reads_29 h9 ?_
      refine hs_istore (lv' := [(4, .int r9), (0, .ref x0), (1, .int x1), (2, .int x2), (3, .int x3)]) dX9_reads_30 (by decide) rfl ?_
      refine hs_iload_n dX9_reads_32 3 rfl ?_
      refine hs_if_eq (tgt := 56) dX9_reads_33 (by decide) (fun hc10 => ?_) (fun hc10 => ?_)
      · rw [if_pos hc10] at h
        refine hs_sub (lv' := [(0, .ref x0), (1, .int x1), (2, .int x2), (3, .int x3), (4, .int r9)]) [1, 2, 3, 4, 0] rfl ?_
        exact c_X9_reads_b56 (f_X9_reads_b16 n) ih h
      · rw [if_neg hc10] at h
        refine hs_iload dX9_reads_36 0 rfl ?_
        refine hs_bipush (v := (33 : Int32)) dX9_reads_38 (by decide) ?_
        refine hs_icmp_ne (tgt := 56) dX9_reads_40 (by decide) (fun hc11 => ?_) (fun hc11 => ?_)
        · rw [if_neg hc11] at h
          refine hs_sub (lv' := [(0, .ref x0), (1, .int x1), (2, .int x2), (3, .int x3), (4, .int r9)]) [1, 2, 3, 4, 0] rfl ?_
          exact c_X9_reads_b56 (f_X9_reads_b16 n) ih h
        · rw [if_pos hc11] at h
          refine hs_aload_n dX9_reads_43 1 rfl ?_
          refine hs_sipush (v := (200 : Int32)) dX9_reads_44 (by decide) ?_
          obtain ⟨r12, h12, h⟩ := hb_bind h
          obtain ⟨h12, nf12, hb12⟩ := hb_on_at h12
          refine hs_callVv (μ' := mX9_waits) (mc := 0) (ms := 0) (rc := 0) (rs := 0) (As := [.int (200 : Int32)]) (rest := []) (ci := 9) dX9_reads_47 lmX9_273 okX9_waits rfl (by decide) rfl (Nat.le_of_ble_eq_true rfl) rfl hb12 (c_X9_waits h12) ?_
          refine hs_iinc2 (k := (1 : Int32)) (lv' := [(3, .int (x3 + (1 : Int32))), (4, .int r9), (0, .ref x0), (1, .int x1), (2, .int x2)]) dX9_reads_50 (by decide) 4 rfl (by decide) rfl ?_
          refine hs_goto (tgt := 236) dX9_reads_53 (by decide) ?_
          refine hs_sub (lv' := [(0, .ref x0), (1, .int x1), (2, .int x2), (3, .int (x3 + (1 : Int32)))]) [2, 3, 4, 0] rfl ?_
          exact c_X9_reads_b236 (f_X9_reads_b16 n) ih h
set_option maxHeartbeats 4000000 in
set_option maxRecDepth 20000 in
theorem c_X9_reads {G : hb_G} {l : Launch} {z : Bool} {x0 : Nat} {σ : hb_M} {r : (Int32 × hb_M)} (h : f_X9_reads x0 σ = some r) : hb_Call G l z 3 0 0 mX9_reads [.ref x0] σ (.inl (some (.int r.1)), r.2) := by
  refine hb_met (by decide) (Nat.le_of_ble_eq_true rfl) ?_
  unfold f_X9_reads at h
  refine hs_aload_n dX9_reads_0 0 rfl ?_
  refine hs_iconst (v := (0 : Int32)) dX9_reads_1 (by decide) ?_
  obtain ⟨r1, h1, h⟩ := hb_bind h
  refine hs_putI dX9_reads_2 lpX9_reads_251 rfl h1 ?_
  refine hs_aload_n dX9_reads_5 0 rfl ?_
  refine hs_iconst (v := (0 : Int32)) dX9_reads_6 (by decide) ?_
  obtain ⟨r2, h2, h⟩ := hb_bind h
  refine hs_putI dX9_reads_7 lpX9_reads_254 rfl h2 ?_
  refine hs_iconst (v := (0 : Int32)) dX9_reads_10 (by decide) ?_
  refine hs_istore_n (lv' := [(1, .int (0 : Int32)), (0, .ref x0)]) dX9_reads_11 (by decide) rfl ?_
  refine hs_iconst (v := (1 : Int32)) dX9_reads_12 (by decide) ?_
  refine hs_istore_n (lv' := [(2, .int (1 : Int32)), (1, .int (0 : Int32)), (0, .ref x0)]) dX9_reads_13 (by decide) rfl ?_
  refine hs_iconst (v := (0 : Int32)) dX9_reads_14 (by decide) ?_
  refine hs_istore_n (lv' := [(3, .int (0 : Int32)), (2, .int (1 : Int32)), (1, .int (0 : Int32)), (0, .ref x0)]) dX9_reads_15 (by decide) rfl ?_
  refine hs_sub (lv' := [(0, .ref x0), (1, .int (0 : Int32)), (2, .int (1 : Int32)), (3, .int (0 : Int32))]) [3, 2, 1, 0] rfl ?_
  exact c_X9_reads_b16 hb_FU _ _ _ _ _ _ h
def mX9_valueOf : hb_Y := (yX9_valueOf, cX9_valueOf, 3, (some .int), [], false)
theorem okX9_valueOf : hb_okV mX9_valueOf 2 := ⟨⟨hb_w 11 (by decide +kernel) (by decide +kernel), hb_w 1815 (by decide +kernel) (by decide +kernel), ⟨by decide +kernel, by decide +kernel, by decide +kernel⟩, by decide⟩, hb_w 1814 (by decide +kernel) (by decide +kernel), hb_wp (q := (yX9_valueOf, 29)) 83 (by decide +kernel) (by decide +kernel)⟩
set_option maxHeartbeats 4000000 in
set_option maxRecDepth 20000 in
theorem c_X9_valueOf {G : hb_G} {l : Launch} {z : Bool} {x0 : Nat} {x1 : Int32} {x2 : Int32} {σ : hb_M} {r : (Int32 × hb_M)} (h : f_X9_valueOf x0 x1 x2 σ = some r) : hb_Call G l z 5 0 0 mX9_valueOf [.ref x0, .int x1, .int x2] σ (.inl (some (.int r.1)), r.2) := by
  refine hb_met (by decide) (Nat.le_of_ble_eq_true rfl) ?_
  unfold f_X9_valueOf at h
  refine hs_iload_n dX9_valueOf_0 1 rfl ?_
  by_cases hc1 : x1 = (97 : Int32)
  · rw [if_pos hc1] at h
    refine hs_tblC (tgt := 138) (off := 137) (97 : Int32) dX9_valueOf_1 hc1 (by decide) (by decide) (by decide) (by decide) ?_
    refine hs_aload_n dX9_valueOf_138 0 rfl ?_
    obtain ⟨r2, h2, h⟩ := hb_bind h
    refine hs_getR dX9_valueOf_139 lkX9_7 rfl h2 ?_
    refine hs_iload_n dX9_valueOf_142 2 rfl ?_
    obtain ⟨r3, h3, h⟩ := hb_bind h
    refine hs_callSi (μ' := mX9_at) (mc := 0) (ms := 0) (rc := 0) (rs := 0) (As := [.int x2]) (rest := [.ref r2]) dX9_valueOf_143 lmX9_103 okX9_at rfl (by decide) rfl (Nat.le_of_ble_eq_true rfl) (c_X9_at h3) ?_
    refine hs_iconst (v := (3 : Int32)) dX9_valueOf_146 (by decide) ?_
    refine hs_iadd dX9_valueOf_147 ?_
    obtain ⟨r4, h4, h⟩ := hb_bind h
    refine hs_iald dX9_valueOf_148 h4 ?_
    obtain rfl := Option.some.inj h
    exact hs_ireturn dX9_valueOf_149 rfl (by rfl) (fun _ => rfl)
  rw [if_neg hc1] at h
  by_cases hc5 : x1 = (100 : Int32)
  · rw [if_pos hc5] at h
    refine hs_tblC (tgt := 104) (off := 103) (100 : Int32) dX9_valueOf_1 hc5 (by decide) (by decide) (by decide) (by decide) ?_
    refine hs_aload_n dX9_valueOf_104 0 rfl ?_
    obtain ⟨r6, h6, h⟩ := hb_bind h
    refine hs_getR dX9_valueOf_105 lkX9_35 rfl h6 ?_
    refine hs_iload_n dX9_valueOf_108 2 rfl ?_
    obtain ⟨r7, h7, h⟩ := hb_bind h
    refine hs_iald dX9_valueOf_109 h7 ?_
    refine hs_iconst (v := (-1 : Int32)) dX9_valueOf_110 (by decide) ?_
    refine hs_icmp_ne (tgt := 119) dX9_valueOf_111 (by decide) (fun hc8 => ?_) (fun hc8 => ?_)
    · rw [if_neg hc8] at h
      refine hs_aload_n dX9_valueOf_119 0 rfl ?_
      obtain ⟨r9, h9, h⟩ := hb_bind h
      refine hs_getR dX9_valueOf_120 lkX9_35 rfl h9 ?_
      refine hs_iload_n dX9_valueOf_123 2 rfl ?_
      obtain ⟨r10, h10, h⟩ := hb_bind h
      refine hs_iald dX9_valueOf_124 h10 ?_
      obtain rfl := Option.some.inj h
      exact hs_ireturn dX9_valueOf_125 rfl (by rfl) (fun _ => rfl)
    · rw [if_pos hc8] at h
      refine hs_bipush (v := (99 : Int32)) dX9_valueOf_114 (by decide) ?_
      refine hs_goto (tgt := 125) dX9_valueOf_116 (by decide) ?_
      obtain rfl := Option.some.inj h
      exact hs_ireturn dX9_valueOf_125 rfl (by rfl) (fun _ => rfl)
  rw [if_neg hc5] at h
  by_cases hc11 : x1 = (105 : Int32)
  · rw [if_pos hc11] at h
    refine hs_tblC (tgt := 126) (off := 125) (105 : Int32) dX9_valueOf_1 hc11 (by decide) (by decide) (by decide) (by decide) ?_
    refine hs_aload_n dX9_valueOf_126 0 rfl ?_
    refine hs_iload_n dX9_valueOf_127 2 rfl ?_
    obtain ⟨r12, h12, h⟩ := hb_bind h
    obtain ⟨h12, nf12, hb12⟩ := hb_on_at h12
    refine hs_callVi (μ' := mX9_referencesTo) (mc := 0) (ms := 0) (rc := 0) (rs := 0) (As := [.int x2]) (rest := []) (ci := 9) dX9_valueOf_128 lmX9_148 okX9_referencesTo rfl (by decide) rfl (Nat.le_of_ble_eq_true rfl) rfl hb12 (c_X9_referencesTo h12) ?_
    obtain rfl := Option.some.inj h
    exact hs_ireturn dX9_valueOf_131 rfl (by rfl) (fun _ => rfl)
  rw [if_neg hc11] at h
  by_cases hc13 : x1 = (110 : Int32)
  · rw [if_pos hc13] at h
    refine hs_tblC (tgt := 150) (off := 149) (110 : Int32) dX9_valueOf_1 hc13 (by decide) (by decide) (by decide) (by decide) ?_
    refine hs_iload_n dX9_valueOf_150 2 rfl ?_
    obtain rfl := Option.some.inj h
    exact hs_ireturn dX9_valueOf_151 rfl (by rfl) (fun _ => rfl)
  rw [if_neg hc13] at h
  by_cases hc14 : x1 = (111 : Int32)
  · rw [if_pos hc14] at h
    refine hs_tblC (tgt := 132) (off := 131) (111 : Int32) dX9_valueOf_1 hc14 (by decide) (by decide) (by decide) (by decide) ?_
    refine hs_aload_n dX9_valueOf_132 0 rfl ?_
    refine hs_iload_n dX9_valueOf_133 2 rfl ?_
    obtain ⟨r15, h15, h⟩ := hb_bind h
    obtain ⟨h15, nf15, hb15⟩ := hb_on_at h15
    refine hs_callVi (μ' := mX9_referencesFrom) (mc := 0) (ms := 0) (rc := 0) (rs := 0) (As := [.int x2]) (rest := []) (ci := 9) dX9_valueOf_134 lmX9_145 okX9_referencesFrom rfl (by decide) rfl (Nat.le_of_ble_eq_true rfl) rfl hb15 (c_X9_referencesFrom h15) ?_
    obtain rfl := Option.some.inj h
    exact hs_ireturn dX9_valueOf_137 rfl (by rfl) (fun _ => rfl)
  rw [if_neg hc14] at h
  by_cases hc16 : x1 = (114 : Int32)
  · rw [if_pos hc16] at h
    refine hs_tblC (tgt := 98) (off := 97) (114 : Int32) dX9_valueOf_1 hc16 (by decide) (by decide) (by decide) (by decide) ?_
    refine hs_aload_n dX9_valueOf_98 0 rfl ?_
    refine hs_iload_n dX9_valueOf_99 2 rfl ?_
    obtain ⟨r17, h17, h⟩ := hb_bind h
    obtain ⟨h17, nf17, hb17⟩ := hb_on_at h17
    refine hs_callVi (μ' := mX9_retainedBy) (mc := 0) (ms := 0) (rc := 0) (rs := 0) (As := [.int x2]) (rest := []) (ci := 9) dX9_valueOf_100 lmX9_208 okX9_retainedBy rfl (by decide) rfl (Nat.le_of_ble_eq_true rfl) rfl hb17 (c_X9_retainedBy h17) ?_
    obtain rfl := Option.some.inj h
    exact hs_ireturn dX9_valueOf_103 rfl (by rfl) (fun _ => rfl)
  rw [if_neg hc16] at h
  by_cases hc18 : x1 = (115 : Int32)
  · rw [if_pos hc18] at h
    refine hs_tblC (tgt := 92) (off := 91) (115 : Int32) dX9_valueOf_1 hc18 (by decide) (by decide) (by decide) (by decide) ?_
    refine hs_aload_n dX9_valueOf_92 0 rfl ?_
    refine hs_iload_n dX9_valueOf_93 2 rfl ?_
    obtain ⟨r19, h19, h⟩ := hb_bind h
    obtain ⟨h19, nf19, hb19⟩ := hb_on_at h19
    refine hs_callVi (μ' := mX9_sizeOf) (mc := 0) (ms := 0) (rc := 0) (rs := 0) (As := [.int x2]) (rest := []) (ci := 9) dX9_valueOf_94 lmX9_109 okX9_sizeOf rfl (by decide) rfl (Nat.le_of_ble_eq_true rfl) rfl hb19 (c_X9_sizeOf h19) ?_
    obtain rfl := Option.some.inj h
    exact hs_ireturn dX9_valueOf_97 rfl (by rfl) (fun _ => rfl)
  rw [if_neg hc18] at h
  refine hs_tblD (tgt := 152) [(97 : Int32), (100 : Int32), (105 : Int32), (110 : Int32), (111 : Int32), (114 : Int32), (115 : Int32)] dX9_valueOf_1 (by simp only [List.mem_cons, List.not_mem_nil, or_false, forall_eq_or_imp, forall_eq]; exact ⟨hc1, hc5, hc11, hc13, hc14, hc16, hc18⟩) (by decide) (by decide) (by decide) ?_
  refine hs_aload_n dX9_valueOf_152 0 rfl ?_
  obtain ⟨r20, h20, h⟩ := hb_bind h
  refine hs_getR dX9_valueOf_153 lkX9_7 rfl h20 ?_
  refine hs_iload_n dX9_valueOf_156 2 rfl ?_
  obtain ⟨r21, h21, h⟩ := hb_bind h
  refine hs_callSi (μ' := mX9_at) (mc := 0) (ms := 0) (rc := 0) (rs := 0) (As := [.int x2]) (rest := [.ref r20]) dX9_valueOf_157 lmX9_103 okX9_at rfl (by decide) rfl (Nat.le_of_ble_eq_true rfl) (c_X9_at h21) ?_
  refine hs_iconst (v := (1 : Int32)) dX9_valueOf_160 (by decide) ?_
  refine hs_iadd dX9_valueOf_161 ?_
  obtain ⟨r22, h22, h⟩ := hb_bind h
  refine hs_iald dX9_valueOf_162 h22 ?_
  obtain rfl := Option.some.inj h
  exact hs_ireturn dX9_valueOf_163 rfl (by rfl) (fun _ => rfl)
def mX9_isSo : hb_Y := (yX9_isSo, cX9_isSo, 4, (some .boolean), [], false)
theorem okX9_isSo : hb_okV mX9_isSo 2 := ⟨⟨hb_w 11 (by decide +kernel) (by decide +kernel), hb_w 1811 (by decide +kernel) (by decide +kernel), ⟨by decide +kernel, by decide +kernel, by decide +kernel⟩, by decide⟩, hb_w 1810 (by decide +kernel) (by decide +kernel), hb_wp (q := (yX9_isSo, 29)) 82 (by decide +kernel) (by decide +kernel)⟩
set_option maxHeartbeats 4000000 in
set_option maxRecDepth 20000 in
theorem c_X9_isSo {G : hb_G} {l : Launch} {z : Bool} {x0 : Nat} {x1 : Int32} {x2 : Int32} {σ : hb_M} {r : (Int32 × hb_M)} (h : f_X9_isSo x0 x1 x2 σ = some r) : hb_Call G l z 6 0 0 mX9_isSo [.ref x0, .int x1, .int x2] σ (.inl (some (.int r.1)), r.2) := by
  refine hb_met (by decide) (Nat.le_of_ble_eq_true rfl) ?_
  unfold f_X9_isSo at h
  refine hs_aload_n dX9_isSo_0 0 rfl ?_
  obtain ⟨r1, h1, h⟩ := hb_bind h
  refine hs_getR dX9_isSo_1 lkX9_44 rfl h1 ?_
  refine hs_iload_n dX9_isSo_4 1 rfl ?_
  obtain ⟨r2, h2, h⟩ := hb_bind h
  refine hs_iald dX9_isSo_5 h2 ?_
  refine hs_bipush (v := (42 : Int32)) dX9_isSo_6 (by decide) ?_
  refine hs_icmp_ne (tgt := 31) dX9_isSo_8 (by decide) (fun hc3 => ?_) (fun hc3 => ?_)
  · rw [if_neg hc3] at h
    refine hs_aload_n dX9_isSo_31 0 rfl ?_
    obtain ⟨r4, h4, h⟩ := hb_bind h
    refine hs_getR dX9_isSo_32 lkX9_44 rfl h4 ?_
    refine hs_iload_n dX9_isSo_35 1 rfl ?_
    obtain ⟨r5, h5, h⟩ := hb_bind h
    refine hs_iald dX9_isSo_36 h5 ?_
    refine hs_bipush (v := (64 : Int32)) dX9_isSo_37 (by decide) ?_
    refine hs_icmp_ne (tgt := 88) dX9_isSo_39 (by decide) (fun hc6 => ?_) (fun hc6 => ?_)
    · rw [if_neg hc6] at h
      refine hs_aload_n dX9_isSo_88 0 rfl ?_
      refine hs_aload_n dX9_isSo_89 0 rfl ?_
      obtain ⟨r7, h7, h⟩ := hb_bind h
      refine hs_getR dX9_isSo_90 lkX9_44 rfl h7 ?_
      refine hs_iload_n dX9_isSo_93 1 rfl ?_
      obtain ⟨r8, h8, h⟩ := hb_bind h
      refine hs_iald dX9_isSo_94 h8 ?_
      refine hs_iload_n dX9_isSo_95 2 rfl ?_
      obtain ⟨r9, h9, h⟩ := hb_bind h
      obtain ⟨h9, nf9, hb9⟩ := hb_on_at h9
      refine hs_callVi (μ' := mX9_valueOf) (mc := 0) (ms := 0) (rc := 0) (rs := 0) (As := [.int r8, .int x2]) (rest := []) (ci := 9) dX9_isSo_96 lmX9_283 okX9_valueOf rfl (by decide) rfl (Nat.le_of_ble_eq_true rfl) rfl hb9 (c_X9_valueOf h9) ?_
      refine hs_istore_n (lv' := [(3, .int r9.1), (0, .ref x0), (1, .int x1), (2, .int x2)]) dX9_isSo_99 (by decide) rfl ?_
      refine hs_aload_n dX9_isSo_100 1 rfl ?_
      obtain ⟨r10, h10, h⟩ := hb_bind h
      refine hs_getR dX9_isSo_101 lkX9_47 rfl h10 ?_
      refine hs_iload_n dX9_isSo_104 2 rfl ?_
      obtain ⟨r11, h11, h⟩ := hb_bind h
      refine hs_iald dX9_isSo_105 h11 ?_
      refine hs_bipush (v := (60 : Int32)) dX9_isSo_106 (by decide) ?_
      refine hs_icmp_ne (tgt := 129) dX9_isSo_108 (by decide) (fun hc12 => ?_) (fun hc12 => ?_)
      · rw [if_neg hc12] at h
        refine hs_aload_n dX9_isSo_129 1 rfl ?_
        obtain ⟨r13, h13, h⟩ := hb_bind h
        refine hs_getR dX9_isSo_130 lkX9_47 rfl h13 ?_
        refine hs_iload_n dX9_isSo_133 2 rfl ?_
        obtain ⟨r14, h14, h⟩ := hb_bind h
        refine hs_iald dX9_isSo_134 h14 ?_
        refine hs_bipush (v := (61 : Int32)) dX9_isSo_135 (by decide) ?_
        refine hs_icmp_ne (tgt := 158) dX9_isSo_137 (by decide) (fun hc15 => ?_) (fun hc15 => ?_)
        · rw [if_neg hc15] at h
          refine hs_iload_n dX9_isSo_158 0 rfl ?_
          refine hs_aload_n dX9_isSo_159 1 rfl ?_
          obtain ⟨r16, h16, h⟩ := hb_bind h
          refine hs_getR dX9_isSo_160 lkX9_50 rfl h16 ?_
          refine hs_iload_n dX9_isSo_163 2 rfl ?_
          obtain ⟨r17, h17, h⟩ := hb_bind h
          refine hs_iald dX9_isSo_164 h17 ?_
          refine hs_icmp_le (tgt := 172) dX9_isSo_165 (by decide) (fun hc18 => ?_) (fun hc18 => ?_)
          · rw [if_pos hc18] at h
            refine hs_iconst (v := (0 : Int32)) dX9_isSo_172 (by decide) ?_
            obtain rfl := Option.some.inj h
            exact hs_ireturn dX9_isSo_173 rfl (by decide) (fun _ => rfl)
          · rw [if_neg hc18] at h
            refine hs_iconst (v := (1 : Int32)) dX9_isSo_168 (by decide) ?_
            refine hs_goto (tgt := 173) dX9_isSo_169 (by decide) ?_
            obtain rfl := Option.some.inj h
            exact hs_ireturn dX9_isSo_173 rfl (by decide) (fun _ => rfl)
        · rw [if_pos hc15] at h
          refine hs_iload_n dX9_isSo_140 0 rfl ?_
          refine hs_aload_n dX9_isSo_141 1 rfl ?_
          obtain ⟨r19, h19, h⟩ := hb_bind h
          refine hs_getR dX9_isSo_142 lkX9_50 rfl h19 ?_
          refine hs_iload_n dX9_isSo_145 2 rfl ?_
          obtain ⟨r20, h20, h⟩ := hb_bind h
          refine hs_iald dX9_isSo_146 h20 ?_
          refine hs_icmp_ne (tgt := 154) dX9_isSo_147 (by decide) (fun hc21 => ?_) (fun hc21 => ?_)
          · rw [if_neg hc21] at h
            refine hs_iconst (v := (0 : Int32)) dX9_isSo_154 (by decide) ?_
            refine hs_goto (tgt := 173) dX9_isSo_155 (by decide) ?_
            obtain rfl := Option.some.inj h
            exact hs_ireturn dX9_isSo_173 rfl (by decide) (fun _ => rfl)
          · rw [if_pos hc21] at h
            refine hs_iconst (v := (1 : Int32)) dX9_isSo_150 (by decide) ?_
            refine hs_goto (tgt := 173) dX9_isSo_151 (by decide) ?_
            obtain rfl := Option.some.inj h
            exact hs_ireturn dX9_isSo_173 rfl (by decide) (fun _ => rfl)
      · rw [if_pos hc12] at h
        refine hs_iload_n dX9_isSo_111 0 rfl ?_
        refine hs_aload_n dX9_isSo_112 1 rfl ?_
        obtain ⟨r22, h22, h⟩ := hb_bind h
        refine hs_getR dX9_isSo_113 lkX9_50 rfl h22 ?_
        refine hs_iload_n dX9_isSo_116 2 rfl ?_
        obtain ⟨r23, h23, h⟩ := hb_bind h
        refine hs_iald dX9_isSo_117 h23 ?_
        refine hs_icmp_ge (tgt := 125) dX9_isSo_118 (by decide) (fun hc24 => ?_) (fun hc24 => ?_)
        · rw [if_pos hc24] at h
          refine hs_iconst (v := (0 : Int32)) dX9_isSo_125 (by decide) ?_
          refine hs_goto (tgt := 173) dX9_isSo_126 (by decide) ?_
          obtain rfl := Option.some.inj h
          exact hs_ireturn dX9_isSo_173 rfl (by decide) (fun _ => rfl)
        · rw [if_neg hc24] at h
          refine hs_iconst (v := (1 : Int32)) dX9_isSo_121 (by decide) ?_
          refine hs_goto (tgt := 173) dX9_isSo_122 (by decide) ?_
          obtain rfl := Option.some.inj h
          exact hs_ireturn dX9_isSo_173 rfl (by decide) (fun _ => rfl)
    · rw [if_pos hc6] at h
      refine hs_aload_n dX9_isSo_42 0 rfl ?_
      obtain ⟨r25, h25, h⟩ := hb_bind h
      refine hs_getR dX9_isSo_43 lkX9_7 rfl h25 ?_
      refine hs_iload_n dX9_isSo_46 2 rfl ?_
      obtain ⟨r26, h26, h⟩ := hb_bind h
      refine hs_callSi (μ' := mX9_at) (mc := 0) (ms := 0) (rc := 0) (rs := 0) (As := [.int x2]) (rest := [.ref r25]) dX9_isSo_47 lmX9_103 okX9_at rfl (by decide) rfl (Nat.le_of_ble_eq_true rfl) (c_X9_at h26) ?_
      refine hs_iconst (v := (1 : Int32)) dX9_isSo_50 (by decide) ?_
      refine hs_iadd dX9_isSo_51 ?_
      obtain ⟨r27, h27, h⟩ := hb_bind h
      refine hs_iald dX9_isSo_52 h27 ?_
      refine hs_bipush (v := (10 : Int32)) dX9_isSo_53 (by decide) ?_
      refine hs_icmp_ge (tgt := 86) dX9_isSo_55 (by decide) (fun hc28 => ?_) (fun hc28 => ?_)
      · rw [if_pos hc28] at h
        refine hs_iconst (v := (0 : Int32)) dX9_isSo_86 (by decide) ?_
        obtain rfl := Option.some.inj h
        exact hs_ireturn dX9_isSo_87 rfl (by decide) (fun _ => rfl)
      · rw [if_neg hc28] at h
        refine hs_aload_n dX9_isSo_58 0 rfl ?_
        refine hs_aload_n dX9_isSo_59 0 rfl ?_
        obtain ⟨r29, h29, h⟩ := hb_bind h
        refine hs_getR dX9_isSo_60 lkX9_7 rfl h29 ?_
        refine hs_iload_n dX9_isSo_63 2 rfl ?_
        obtain ⟨r30, h30, h⟩ := hb_bind h
        refine hs_callSi (μ' := mX9_at) (mc := 0) (ms := 0) (rc := 0) (rs := 0) (As := [.int x2]) (rest := [.ref r29, .ref x0]) dX9_isSo_64 lmX9_103 okX9_at rfl (by decide) rfl (Nat.le_of_ble_eq_true rfl) (c_X9_at h30) ?_
        refine hs_iconst (v := (1 : Int32)) dX9_isSo_67 (by decide) ?_
        refine hs_iadd dX9_isSo_68 ?_
        obtain ⟨r31, h31, h⟩ := hb_bind h
        refine hs_iald dX9_isSo_69 h31 ?_
        refine hs_aload_n dX9_isSo_70 0 rfl ?_
        obtain ⟨r32, h32, h⟩ := hb_bind h
        refine hs_getR dX9_isSo_71 lkX9_50 rfl h32 ?_
        refine hs_iload_n dX9_isSo_74 1 rfl ?_
        obtain ⟨r33, h33, h⟩ := hb_bind h
        refine hs_iald dX9_isSo_75 h33 ?_
        obtain ⟨r34, h34, h⟩ := hb_bind h
        obtain ⟨h34, nf34, hb34⟩ := hb_on_at h34
        refine hs_callVi (μ' := mX9_isBelow) (mc := 0) (ms := 0) (rc := 0) (rs := 0) (As := [.int r31, .int r33]) (rest := []) (ci := 9) dX9_isSo_76 lmX9_99 okX9_isBelow rfl (by decide) rfl (Nat.le_of_ble_eq_true rfl) rfl hb34 (c_X9_isBelow h34) ?_
        refine hs_if_eq (tgt := 86) dX9_isSo_79 (by decide) (fun hc35 => ?_) (fun hc35 => ?_)
        · rw [if_pos hc35] at h
          refine hs_iconst (v := (0 : Int32)) dX9_isSo_86 (by decide) ?_
          obtain rfl := Option.some.inj h
          exact hs_ireturn dX9_isSo_87 rfl (by decide) (fun _ => rfl)
        · rw [if_neg hc35] at h
          refine hs_iconst (v := (1 : Int32)) dX9_isSo_82 (by decide) ?_
          refine hs_goto (tgt := 87) dX9_isSo_83 (by decide) ?_
          obtain rfl := Option.some.inj h
          exact hs_ireturn dX9_isSo_87 rfl (by decide) (fun _ => rfl)
  · rw [if_pos hc3] at h
    refine hs_aload_n dX9_isSo_11 0 rfl ?_
    obtain ⟨r36, h36, h⟩ := hb_bind h
    refine hs_getR dX9_isSo_12 lkX9_7 rfl h36 ?_
    refine hs_iload_n dX9_isSo_15 2 rfl ?_
    obtain ⟨r37, h37, h⟩ := hb_bind h
    refine hs_callSi (μ' := mX9_at) (mc := 0) (ms := 0) (rc := 0) (rs := 0) (As := [.int x2]) (rest := [.ref r36]) dX9_isSo_16 lmX9_103 okX9_at rfl (by decide) rfl (Nat.le_of_ble_eq_true rfl) (c_X9_at h37) ?_
    refine hs_iconst (v := (4 : Int32)) dX9_isSo_19 (by decide) ?_
    refine hs_iadd dX9_isSo_20 ?_
    obtain ⟨r38, h38, h⟩ := hb_bind h
    refine hs_iald dX9_isSo_21 h38 ?_
    refine hs_if_eq (tgt := 29) dX9_isSo_22 (by decide) (fun hc39 => ?_) (fun hc39 => ?_)
    · rw [if_pos hc39] at h
      refine hs_iconst (v := (0 : Int32)) dX9_isSo_29 (by decide) ?_
      obtain rfl := Option.some.inj h
      exact hs_ireturn dX9_isSo_30 rfl (by decide) (fun _ => rfl)
    · rw [if_neg hc39] at h
      refine hs_iconst (v := (1 : Int32)) dX9_isSo_25 (by decide) ?_
      refine hs_goto (tgt := 30) dX9_isSo_26 (by decide) ?_
      obtain rfl := Option.some.inj h
      exact hs_ireturn dX9_isSo_30 rfl (by decide) (fun _ => rfl)
def mX9_isTrue : hb_Y := (yX9_isTrue, cX9_isTrue, 5, (some .boolean), [], false)
theorem okX9_isTrue : hb_okV mX9_isTrue 1 := ⟨⟨hb_w 11 (by decide +kernel) (by decide +kernel), hb_w 1807 (by decide +kernel) (by decide +kernel), ⟨by decide +kernel, by decide +kernel, by decide +kernel⟩, by decide⟩, hb_w 1806 (by decide +kernel) (by decide +kernel), hb_wp (q := (yX9_isTrue, 29)) 81 (by decide +kernel) (by decide +kernel)⟩
set_option maxHeartbeats 4000000 in
set_option maxRecDepth 20000 in
theorem c_X9_isTrue_b153 {G : hb_G} {l : Launch} {z : Bool}  (k4 : Nat → Int32 → Int32 → Int32 → hb_M → Option (Int32 × hb_M)) (hk4 : ∀ (x0 : Nat) (x1 : Int32) (x2 : Int32) (x3 : Int32) (σ : hb_M) (r : (Int32 × hb_M)), k4 x0 x1 x2 x3 σ = some r → hb_T G l z mX9_isTrue 7 0 0 4 [(0, .ref x0), (1, .int x1), (2, .int x2), (3, .int x3)] [] σ (.inl (some (.int r.1)), r.2))  {x0 : Nat} {x1 : Int32} {x2 : Int32} {x3 : Int32} {σ : hb_M} {r : (Int32 × hb_M)} (h : f_X9_isTrue_b153 k4 x0 x1 x2 x3 σ = some r) : hb_T G l z mX9_isTrue 7 0 0 153 [(0, .ref x0), (1, .int x1), (2, .int x2), (3, .int x3)] [] σ (.inl (some (.int r.1)), r.2) := by
  unfold f_X9_isTrue_b153 at h
  refine hs_iinc2 (k := (1 : Int32)) (lv' := [(3, .int (x3 + (1 : Int32))), (0, .ref x0), (1, .int x1), (2, .int x2)]) dX9_isTrue_153 (by decide) 3 rfl (by decide) rfl ?_
  refine hs_goto (tgt := 4) dX9_isTrue_156 (by decide) ?_
  refine hs_sub (lv' := [(0, .ref x0), (1, .int x1), (2, .int x2), (3, .int (x3 + (1 : Int32)))]) [1, 2, 3, 0] rfl ?_
  exact hk4 _ _ _ _ _ _ h
set_option maxHeartbeats 4000000 in
set_option maxRecDepth 20000 in
theorem c_X9_isTrue_b152 {G : hb_G} {l : Launch} {z : Bool}  (k4 : Nat → Int32 → Int32 → Int32 → hb_M → Option (Int32 × hb_M)) (hk4 : ∀ (x0 : Nat) (x1 : Int32) (x2 : Int32) (x3 : Int32) (σ : hb_M) (r : (Int32 × hb_M)), k4 x0 x1 x2 x3 σ = some r → hb_T G l z mX9_isTrue 7 0 0 4 [(0, .ref x0), (1, .int x1), (2, .int x2), (3, .int x3)] [] σ (.inl (some (.int r.1)), r.2))  {x0 : Nat} {x1 : Int32} {x2 : Int32} {x3 : Int32} {s0 : Nat} {s1 : Int32} {s2 : Int32} {σ : hb_M} {r : (Int32 × hb_M)} (h : f_X9_isTrue_b152 k4 x0 x1 x2 x3 s0 s1 s2 σ = some r) : hb_T G l z mX9_isTrue 7 0 0 152 [(0, .ref x0), (1, .int x1), (2, .int x2), (3, .int x3)] [.int s2, .int s1, .ref s0] σ (.inl (some (.int r.1)), r.2) := by
  unfold f_X9_isTrue_b152 at h
  obtain ⟨r1, h1, h⟩ := hb_bind h
  refine hs_zast dX9_isTrue_152 h1 ?_
  refine hs_sub (lv' := [(0, .ref x0), (1, .int x1), (2, .int x2), (3, .int x3)]) [0, 1, 2, 3] rfl ?_
  exact c_X9_isTrue_b153 k4 hk4 h
set_option maxHeartbeats 4000000 in
set_option maxRecDepth 20000 in
theorem c_X9_isTrue_b147 {G : hb_G} {l : Launch} {z : Bool}  (k4 : Nat → Int32 → Int32 → Int32 → hb_M → Option (Int32 × hb_M)) (hk4 : ∀ (x0 : Nat) (x1 : Int32) (x2 : Int32) (x3 : Int32) (σ : hb_M) (r : (Int32 × hb_M)), k4 x0 x1 x2 x3 σ = some r → hb_T G l z mX9_isTrue 7 0 0 4 [(0, .ref x0), (1, .int x1), (2, .int x2), (3, .int x3)] [] σ (.inl (some (.int r.1)), r.2))  {x0 : Nat} {x1 : Int32} {x2 : Int32} {x3 : Int32} {s0 : Nat} {s1 : Int32} {σ : hb_M} {r : (Int32 × hb_M)} (h : f_X9_isTrue_b147 k4 x0 x1 x2 x3 s0 s1 σ = some r) : hb_T G l z mX9_isTrue 7 0 0 147 [(0, .ref x0), (1, .int x1), (2, .int x2), (3, .int x3)] [.int s1, .ref s0] σ (.inl (some (.int r.1)), r.2) := by
  unfold f_X9_isTrue_b147 at h
  refine hs_iconst (v := (1 : Int32)) dX9_isTrue_147 (by decide) ?_
  refine hs_goto (tgt := 152) dX9_isTrue_148 (by decide) ?_
  refine hs_sub (lv' := [(0, .ref x0), (1, .int x1), (2, .int x2), (3, .int x3)]) [0, 1, 2, 3] rfl ?_
  exact c_X9_isTrue_b152 k4 hk4 h
set_option maxHeartbeats 4000000 in
set_option maxRecDepth 20000 in
theorem c_X9_isTrue_b123 {G : hb_G} {l : Launch} {z : Bool}  (k4 : Nat → Int32 → Int32 → Int32 → hb_M → Option (Int32 × hb_M)) (hk4 : ∀ (x0 : Nat) (x1 : Int32) (x2 : Int32) (x3 : Int32) (σ : hb_M) (r : (Int32 × hb_M)), k4 x0 x1 x2 x3 σ = some r → hb_T G l z mX9_isTrue 7 0 0 4 [(0, .ref x0), (1, .int x1), (2, .int x2), (3, .int x3)] [] σ (.inl (some (.int r.1)), r.2))  {x0 : Nat} {x1 : Int32} {x2 : Int32} {x3 : Int32} {s0 : Nat} {s1 : Int32} {σ : hb_M} {r : (Int32 × hb_M)} (h : f_X9_isTrue_b123 k4 x0 x1 x2 x3 s0 s1 σ = some r) : hb_T G l z mX9_isTrue 7 0 0 123 [(0, .ref x0), (1, .int x1), (2, .int x2), (3, .int x3)] [.int s1, .ref s0] σ (.inl (some (.int r.1)), r.2) := by
  unfold f_X9_isTrue_b123 at h
  refine hs_iconst (v := (0 : Int32)) dX9_isTrue_123 (by decide) ?_
  refine hs_goto (tgt := 152) dX9_isTrue_124 (by decide) ?_
  refine hs_sub (lv' := [(0, .ref x0), (1, .int x1), (2, .int x2), (3, .int x3)]) [0, 1, 2, 3] rfl ?_
  exact c_X9_isTrue_b152 k4 hk4 h
set_option maxHeartbeats 4000000 in
set_option maxRecDepth 20000 in
theorem c_X9_isTrue_b77 {G : hb_G} {l : Launch} {z : Bool}  (k4 : Nat → Int32 → Int32 → Int32 → hb_M → Option (Int32 × hb_M)) (hk4 : ∀ (x0 : Nat) (x1 : Int32) (x2 : Int32) (x3 : Int32) (σ : hb_M) (r : (Int32 × hb_M)), k4 x0 x1 x2 x3 σ = some r → hb_T G l z mX9_isTrue 7 0 0 4 [(0, .ref x0), (1, .int x1), (2, .int x2), (3, .int x3)] [] σ (.inl (some (.int r.1)), r.2))  {x0 : Nat} {x1 : Int32} {x2 : Int32} {x3 : Int32} {s0 : Nat} {s1 : Int32} {s2 : Int32} {σ : hb_M} {r : (Int32 × hb_M)} (h : f_X9_isTrue_b77 k4 x0 x1 x2 x3 s0 s1 s2 σ = some r) : hb_T G l z mX9_isTrue 7 0 0 77 [(0, .ref x0), (1, .int x1), (2, .int x2), (3, .int x3)] [.int s2, .int s1, .ref s0] σ (.inl (some (.int r.1)), r.2) := by
  unfold f_X9_isTrue_b77 at h
  obtain ⟨r1, h1, h⟩ := hb_bind h
  refine hs_zast dX9_isTrue_77 h1 ?_
  refine hs_goto (tgt := 153) dX9_isTrue_78 (by decide) ?_
  refine hs_sub (lv' := [(0, .ref x0), (1, .int x1), (2, .int x2), (3, .int x3)]) [0, 1, 2, 3] rfl ?_
  exact c_X9_isTrue_b153 k4 hk4 h
set_option maxHeartbeats 4000000 in
set_option maxRecDepth 20000 in
theorem c_X9_isTrue_b4 {G : hb_G} {l : Launch} {z : Bool} : ∀ (n : Nat) (x0 : Nat) (x1 : Int32) (x2 : Int32) (x3 : Int32) (σ : hb_M) (r : (Int32 × hb_M)), f_X9_isTrue_b4 n x0 x1 x2 x3 σ = some r → hb_T G l z mX9_isTrue 7 0 0 4 [(0, .ref x0), (1, .int x1), (2, .int x2), (3, .int x3)] [] σ (.inl (some (.int r.1)), r.2) := by
  intro n
  induction n with
  | zero =>
    intro x0 x1 x2 x3 σ r h
    cases h
  | succ n ih =>
    intro x0 x1 x2 x3 σ r h
    rw [f_X9_isTrue_b4] at h
    refine hs_iload_n dX9_isTrue_4 3 rfl ?_
    refine hs_aload_n dX9_isTrue_5 0 rfl ?_
    obtain ⟨r1, h1, h⟩ := hb_bind h
    refine hs_getI dX9_isTrue_6 lkX9_251 rfl h1 ?_
    refine hs_icmp_ge (tgt := 159) dX9_isTrue_9 (by decide) (fun hc2 => ?_) (fun hc2 => ?_)
    · rw [if_pos hc2] at h
      refine hs_aload_n dX9_isTrue_159 0 rfl ?_
      obtain ⟨r3, h3, h⟩ := hb_bind h
      refine hs_getR dX9_isTrue_160 lkX9_56 rfl h3 ?_
      refine hs_iconst (v := (0 : Int32)) dX9_isTrue_163 (by decide) ?_
      obtain ⟨r4, h4, h⟩ := hb_bind h
      refine hs_zald dX9_isTrue_164 h4 ?_
      obtain ⟨rfl, hn⟩ := hb_zr_at h
      exact hs_ireturn dX9_isTrue_165 rfl hn (fun _ => rfl)
    · rw [if_neg hc2] at h
      refine hs_aload_n dX9_isTrue_12 0 rfl ?_
      obtain ⟨r5, h5, h⟩ := hb_bind h
      refine hs_getR dX9_isTrue_13 lkX9_44 rfl h5 ?_
      refine hs_iload_n dX9_isTrue_16 3 rfl ?_
      obtain ⟨r6, h6, h⟩ := hb_bind h
      refine hs_iald dX9_isTrue_17 h6 ?_
      refine hs_istore (lv' := [(4, .int r6), (0, .ref x0), (1, .int x1), (2, .int x2), (3, .int x3)]) dX9_isTrue_18 (by decide) rfl ?_
      refine hs_iload dX9_isTrue_20 0 rfl ?_
      refine hs_sipush (v := (200 : Int32)) dX9_isTrue_22 (by decide) ?_
      refine hs_icmp_ge (tgt := 46) dX9_isTrue_25 (by decide) (fun hc7 => ?_) (fun hc7 => ?_)
      · rw [if_pos hc7] at h
        refine hs_iload dX9_isTrue_46 0 rfl ?_
        refine hs_sipush (v := (200 : Int32)) dX9_isTrue_48 (by decide) ?_
        refine hs_icmp_ne (tgt := 81) dX9_isTrue_51 (by decide) (fun hc8 => ?_) (fun hc8 => ?_)
        · rw [if_neg hc8] at h
          refine hs_iinc2 (k := (-1 : Int32)) (lv' := [(2, .int (x2 + (-1 : Int32))), (4, .int r6), (0, .ref x0), (1, .int x1), (3, .int x3)]) dX9_isTrue_81 (by decide) 3 rfl (by decide) rfl ?_
          refine hs_aload_n dX9_isTrue_84 2 rfl ?_
          obtain ⟨r9, h9, h⟩ := hb_bind h
          refine hs_getR dX9_isTrue_85 lkX9_56 rfl h9 ?_
          refine hs_iload_n dX9_isTrue_88 0 rfl ?_
          refine hs_iconst (v := (1 : Int32)) dX9_isTrue_89 (by decide) ?_
          refine hs_isub dX9_isTrue_90 ?_
          refine hs_iload dX9_isTrue_91 1 rfl ?_
          refine hs_sipush (v := (201 : Int32)) dX9_isTrue_93 (by decide) ?_
          refine hs_icmp_ne (tgt := 127) dX9_isTrue_96 (by decide) (fun hc10 => ?_) (fun hc10 => ?_)
          · rw [if_neg hc10] at h
            refine hs_aload_n dX9_isTrue_127 2 rfl ?_
            obtain ⟨r11, h11, h⟩ := hb_bind h
            refine hs_getR dX9_isTrue_128 lkX9_56 rfl h11 ?_
            refine hs_iload_n dX9_isTrue_131 0 rfl ?_
            refine hs_iconst (v := (1 : Int32)) dX9_isTrue_132 (by decide) ?_
            refine hs_isub dX9_isTrue_133 ?_
            obtain ⟨r12, h12, h⟩ := hb_bind h
            refine hs_zald dX9_isTrue_134 h12 ?_
            refine hs_if_ne (tgt := 147) dX9_isTrue_135 (by decide) (fun hc13 => ?_) (fun hc13 => ?_)
            · rw [if_neg hc13] at h
              refine hs_sub (lv' := [(0, .ref x0), (1, .int x1), (2, .int (x2 + (-1 : Int32))), (3, .int x3)]) [2, 3, 0, 4] rfl ?_
              exact c_X9_isTrue_b147 (f_X9_isTrue_b4 n) ih h
            · rw [if_pos hc13] at h
              refine hs_aload_n dX9_isTrue_138 2 rfl ?_
              obtain ⟨r14, h14, h⟩ := hb_bind h
              refine hs_getR dX9_isTrue_139 lkX9_56 rfl h14 ?_
              refine hs_iload_n dX9_isTrue_142 0 rfl ?_
              obtain ⟨r15, h15, h⟩ := hb_bind h
              refine hs_zald dX9_isTrue_143 h15 ?_
              refine hs_if_eq (tgt := 151) dX9_isTrue_144 (by decide) (fun hc16 => ?_) (fun hc16 => ?_)
              · rw [if_pos hc16] at h
                refine hs_iconst (v := (0 : Int32)) dX9_isTrue_151 (by decide) ?_
                refine hs_sub (lv' := [(0, .ref x0), (1, .int x1), (2, .int (x2 + (-1 : Int32))), (3, .int x3)]) [2, 3, 0, 4] rfl ?_
                exact c_X9_isTrue_b152 (f_X9_isTrue_b4 n) ih h
              · rw [if_neg hc16] at h
                refine hs_sub (lv' := [(0, .ref x0), (1, .int x1), (2, .int (x2 + (-1 : Int32))), (3, .int x3)]) [2, 3, 0, 4] rfl ?_
                exact c_X9_isTrue_b147 (f_X9_isTrue_b4 n) ih h
          · rw [if_pos hc10] at h
            refine hs_aload_n dX9_isTrue_99 2 rfl ?_
            obtain ⟨r17, h17, h⟩ := hb_bind h
            refine hs_getR dX9_isTrue_100 lkX9_56 rfl h17 ?_
            refine hs_iload_n dX9_isTrue_103 0 rfl ?_
            refine hs_iconst (v := (1 : Int32)) dX9_isTrue_104 (by decide) ?_
            refine hs_isub dX9_isTrue_105 ?_
            obtain ⟨r18, h18, h⟩ := hb_bind h
            refine hs_zald dX9_isTrue_106 h18 ?_
            refine hs_if_eq (tgt := 123) dX9_isTrue_107 (by decide) (fun hc19 => ?_) (fun hc19 => ?_)
            · rw [if_pos hc19] at h
              refine hs_sub (lv' := [(0, .ref x0), (1, .int x1), (2, .int (x2 + (-1 : Int32))), (3, .int x3)]) [2, 3, 0, 4] rfl ?_
              exact c_X9_isTrue_b123 (f_X9_isTrue_b4 n) ih h
            · rw [if_neg hc19] at h
              refine hs_aload_n dX9_isTrue_110 2 rfl ?_
              obtain ⟨r20, h20, h⟩ := hb_bind h
              refine hs_getR dX9_isTrue_111 lkX9_56 rfl h20 ?_
              refine hs_iload_n dX9_isTrue_114 0 rfl ?_
              obtain ⟨r21, h21, h⟩ := hb_bind h
              refine hs_zald dX9_isTrue_115 h21 ?_
              refine hs_if_eq (tgt := 123) dX9_isTrue_116 (by decide) (fun hc22 => ?_) (fun hc22 => ?_)
              · rw [if_pos hc22] at h
                refine hs_sub (lv' := [(0, .ref x0), (1, .int x1), (2, .int (x2 + (-1 : Int32))), (3, .int x3)]) [2, 3, 0, 4] rfl ?_
                exact c_X9_isTrue_b123 (f_X9_isTrue_b4 n) ih h
              · rw [if_neg hc22] at h
                refine hs_iconst (v := (1 : Int32)) dX9_isTrue_119 (by decide) ?_
                refine hs_goto (tgt := 152) dX9_isTrue_120 (by decide) ?_
                refine hs_sub (lv' := [(0, .ref x0), (1, .int x1), (2, .int (x2 + (-1 : Int32))), (3, .int x3)]) [2, 3, 0, 4] rfl ?_
                exact c_X9_isTrue_b152 (f_X9_isTrue_b4 n) ih h
        · rw [if_pos hc8] at h
          refine hs_aload_n dX9_isTrue_54 1 rfl ?_
          obtain ⟨r23, h23, h⟩ := hb_bind h
          refine hs_getR dX9_isTrue_55 lkX9_56 rfl h23 ?_
          refine hs_iload_n dX9_isTrue_58 3 rfl ?_
          refine hs_iconst (v := (1 : Int32)) dX9_isTrue_59 (by decide) ?_
          refine hs_isub dX9_isTrue_60 ?_
          refine hs_aload_n dX9_isTrue_61 1 rfl ?_
          obtain ⟨r24, h24, h⟩ := hb_bind h
          refine hs_getR dX9_isTrue_62 lkX9_56 rfl h24 ?_
          refine hs_iload_n dX9_isTrue_65 3 rfl ?_
          refine hs_iconst (v := (1 : Int32)) dX9_isTrue_66 (by decide) ?_
          refine hs_isub dX9_isTrue_67 ?_
          obtain ⟨r25, h25, h⟩ := hb_bind h
          refine hs_zald dX9_isTrue_68 h25 ?_
          refine hs_if_ne (tgt := 76) dX9_isTrue_69 (by decide) (fun hc26 => ?_) (fun hc26 => ?_)
          · rw [if_neg hc26] at h
            refine hs_iconst (v := (0 : Int32)) dX9_isTrue_76 (by decide) ?_
            refine hs_sub (lv' := [(0, .ref x0), (1, .int x1), (2, .int x2), (3, .int x3)]) [1, 2, 3, 4] rfl ?_
            exact c_X9_isTrue_b77 (f_X9_isTrue_b4 n) ih h
          · rw [if_pos hc26] at h
            refine hs_iconst (v := (1 : Int32)) dX9_isTrue_72 (by decide) ?_
            refine hs_goto (tgt := 77) dX9_isTrue_73 (by decide) ?_
            refine hs_sub (lv' := [(0, .ref x0), (1, .int x1), (2, .int x2), (3, .int x3)]) [1, 2, 3, 4] rfl ?_
            exact c_X9_isTrue_b77 (f_X9_isTrue_b4 n) ih h
      · rw [if_neg hc7] at h
        refine hs_aload_n dX9_isTrue_28 1 rfl ?_
        obtain ⟨r27, h27, h⟩ := hb_bind h
        refine hs_getR dX9_isTrue_29 lkX9_56 rfl h27 ?_
        refine hs_iload_n dX9_isTrue_32 3 rfl ?_
        refine hs_aload_n dX9_isTrue_33 1 rfl ?_
        refine hs_iload_n dX9_isTrue_34 4 rfl ?_
        refine hs_iload_n dX9_isTrue_35 2 rfl ?_
        obtain ⟨r28, h28, h⟩ := hb_bind h
        obtain ⟨h28, nf28, hb28⟩ := hb_on_at h28
        refine hs_callVi (μ' := mX9_isSo) (mc := 0) (ms := 0) (rc := 0) (rs := 0) (As := [.int x3, .int x1]) (rest := [.int x2, .ref r27]) (ci := 9) dX9_isTrue_36 lmX9_286 okX9_isSo rfl (by decide) rfl (Nat.le_of_ble_eq_true rfl) rfl hb28 (c_X9_isSo h28) ?_
        obtain ⟨r29, h29, h⟩ := hb_bind h
        refine hs_zast dX9_isTrue_39 h29 ?_
        refine hs_iinc2 (k := (1 : Int32)) (lv' := [(2, .int (x2 + (1 : Int32))), (4, .int r6), (0, .ref x0), (1, .int x1), (3, .int x3)]) dX9_isTrue_40 (by decide) 3 rfl (by decide) rfl ?_
        refine hs_goto (tgt := 153) dX9_isTrue_43 (by decide) ?_
        refine hs_sub (lv' := [(0, .ref x0), (1, .int x1), (2, .int (x2 + (1 : Int32))), (3, .int x3)]) [2, 3, 0, 4] rfl ?_
        exact c_X9_isTrue_b153 (f_X9_isTrue_b4 n) ih h
set_option maxHeartbeats 4000000 in
set_option maxRecDepth 20000 in
theorem c_X9_isTrue {G : hb_G} {l : Launch} {z : Bool} {x0 : Nat} {x1 : Int32} {σ : hb_M} {r : (Int32 × hb_M)} (h : f_X9_isTrue x0 x1 σ = some r) : hb_Call G l z 7 0 0 mX9_isTrue [.ref x0, .int x1] σ (.inl (some (.int r.1)), r.2) := by
  refine hb_met (by decide) (Nat.le_of_ble_eq_true rfl) ?_
  unfold f_X9_isTrue at h
  refine hs_iconst (v := (0 : Int32)) dX9_isTrue_0 (by decide) ?_
  refine hs_istore_n (lv' := [(2, .int (0 : Int32)), (0, .ref x0), (1, .int x1)]) dX9_isTrue_1 (by decide) rfl ?_
  refine hs_iconst (v := (0 : Int32)) dX9_isTrue_2 (by decide) ?_
  refine hs_istore_n (lv' := [(3, .int (0 : Int32)), (2, .int (0 : Int32)), (0, .ref x0), (1, .int x1)]) dX9_isTrue_3 (by decide) rfl ?_
  refine hs_sub (lv' := [(0, .ref x0), (1, .int x1), (2, .int (0 : Int32)), (3, .int (0 : Int32))]) [2, 3, 1, 0] rfl ?_
  exact c_X9_isTrue_b4 hb_FU _ _ _ _ _ _ h
def mX9_laysMatches : hb_Y := (yX9_laysMatches, cX9_laysMatches, 3, (some .int), [], false)
theorem okX9_laysMatches : hb_okV mX9_laysMatches 0 := ⟨⟨hb_w 11 (by decide +kernel) (by decide +kernel), hb_w 1773 (by decide +kernel) (by decide +kernel), ⟨by decide +kernel, by decide +kernel, by decide +kernel⟩, by decide⟩, hb_w 1772 (by decide +kernel) (by decide +kernel), hb_wp (q := (yX9_laysMatches, 29)) 74 (by decide +kernel) (by decide +kernel)⟩
set_option maxHeartbeats 4000000 in
set_option maxRecDepth 20000 in
theorem c_X9_laysMatches_b69 {G : hb_G} {l : Launch} {z : Bool}  (k35 : Nat → Int32 → hb_M → Option (Int32 × hb_M)) (hk35 : ∀ (x0 : Nat) (x2 : Int32) (σ : hb_M) (r : (Int32 × hb_M)), k35 x0 x2 σ = some r → hb_T G l z mX9_laysMatches 8 0 0 35 [(0, .ref x0), (2, .int x2)] [] σ (.inl (some (.int r.1)), r.2))  {x0 : Nat} {x2 : Int32} {s0 : Nat} {s1 : Int64} {s2 : Int64} {σ : hb_M} {r : (Int32 × hb_M)} (h : f_X9_laysMatches_b69 k35 x0 x2 s0 s1 s2 σ = some r) : hb_T G l z mX9_laysMatches 8 0 0 69 [(0, .ref x0), (2, .int x2)] [.long s2, .long s1, .ref s0] σ (.inl (some (.int r.1)), r.2) := by
  unfold f_X9_laysMatches_b69 at h
  refine hs_lor dX9_laysMatches_69 ?_
  obtain ⟨r1, h1, h⟩ := hb_bind h
  refine hs_putL dX9_laysMatches_70 lpX9_laysMatches_292 rfl h1 ?_
  refine hs_iinc2 (k := (1 : Int32)) (lv' := [(2, .int (x2 + (1 : Int32))), (0, .ref x0)]) dX9_laysMatches_73 (by decide) 1 rfl (by decide) rfl ?_
  refine hs_goto (tgt := 35) dX9_laysMatches_76 (by decide) ?_
  refine hs_sub (lv' := [(0, .ref x0), (2, .int (x2 + (1 : Int32)))]) [1, 0] rfl ?_
  exact hk35 _ _ _ _ h
set_option maxHeartbeats 4000000 in
set_option maxRecDepth 20000 in
theorem c_X9_laysMatches_b68 {G : hb_G} {l : Launch} {z : Bool}  (k35 : Nat → Int32 → hb_M → Option (Int32 × hb_M)) (hk35 : ∀ (x0 : Nat) (x2 : Int32) (σ : hb_M) (r : (Int32 × hb_M)), k35 x0 x2 σ = some r → hb_T G l z mX9_laysMatches 8 0 0 35 [(0, .ref x0), (2, .int x2)] [] σ (.inl (some (.int r.1)), r.2))  {x0 : Nat} {x2 : Int32} {s0 : Nat} {s1 : Int64} {σ : hb_M} {r : (Int32 × hb_M)} (h : f_X9_laysMatches_b68 k35 x0 x2 s0 s1 σ = some r) : hb_T G l z mX9_laysMatches 8 0 0 68 [(0, .ref x0), (2, .int x2)] [.long s1, .ref s0] σ (.inl (some (.int r.1)), r.2) := by
  unfold f_X9_laysMatches_b68 at h
  refine hs_lconst (v := (0 : Int64)) dX9_laysMatches_68 (by decide) ?_
  refine hs_sub (lv' := [(0, .ref x0), (2, .int x2)]) [0, 1] rfl ?_
  exact c_X9_laysMatches_b69 k35 hk35 h
set_option maxHeartbeats 4000000 in
set_option maxRecDepth 20000 in
theorem c_X9_laysMatches_b35 {G : hb_G} {l : Launch} {z : Bool} : ∀ (n : Nat) (x0 : Nat) (x2 : Int32) (σ : hb_M) (r : (Int32 × hb_M)), f_X9_laysMatches_b35 n x0 x2 σ = some r → hb_T G l z mX9_laysMatches 8 0 0 35 [(0, .ref x0), (2, .int x2)] [] σ (.inl (some (.int r.1)), r.2) := by
  intro n
  induction n with
  | zero =>
    intro x0 x2 σ r h
    cases h
  | succ n ih =>
    intro x0 x2 σ r h
    rw [f_X9_laysMatches_b35] at h
    refine hs_iload_n dX9_laysMatches_35 1 rfl ?_
    refine hs_bipush (v := (40 : Int32)) dX9_laysMatches_36 (by decide) ?_
    refine hs_icmp_ge (tgt := 79) dX9_laysMatches_38 (by decide) (fun hc1 => ?_) (fun hc1 => ?_)
    · rw [if_pos hc1] at h
      refine hs_iconst (v := (0 : Int32)) dX9_laysMatches_79 (by decide) ?_
      obtain rfl := Option.some.inj h
      exact hs_ireturn dX9_laysMatches_80 rfl (by rfl) (fun _ => rfl)
    · rw [if_neg hc1] at h
      refine hs_aload_n dX9_laysMatches_41 0 rfl ?_
      refine hs_dup dX9_laysMatches_42 rfl ?_
      obtain ⟨r2, h2, h⟩ := hb_bind h
      refine hs_getL dX9_laysMatches_43 lkX9_292 rfl h2 ?_
      refine hs_aload_n dX9_laysMatches_46 0 rfl ?_
      refine hs_iload_n dX9_laysMatches_47 1 rfl ?_
      obtain ⟨r3, h3, h⟩ := hb_bind h
      obtain ⟨h3, nf3, hb3⟩ := hb_on_at h3
      refine hs_callVi (μ' := mX9_isObject) (mc := 0) (ms := 0) (rc := 0) (rs := 0) (As := [.int x2]) (rest := [.long r2, .ref x0]) (ci := 9) dX9_laysMatches_48 lmX9_106 okX9_isObject rfl (by decide) rfl (Nat.le_of_ble_eq_true rfl) rfl hb3 (c_X9_isObject h3) ?_
      refine hs_if_eq (tgt := 68) dX9_laysMatches_51 (by decide) (fun hc4 => ?_) (fun hc4 => ?_)
      · rw [if_pos hc4] at h
        refine hs_sub (lv' := [(0, .ref x0), (2, .int x2)]) [0, 1] rfl ?_
        exact c_X9_laysMatches_b68 (f_X9_laysMatches_b35 n) ih h
      · rw [if_neg hc4] at h
        refine hs_aload_n dX9_laysMatches_54 0 rfl ?_
        refine hs_iload_n dX9_laysMatches_55 1 rfl ?_
        obtain ⟨r5, h5, h⟩ := hb_bind h
        obtain ⟨h5, nf5, hb5⟩ := hb_on_at h5
        refine hs_callVi (μ' := mX9_isTrue) (mc := 0) (ms := 0) (rc := 0) (rs := 0) (As := [.int x2]) (rest := [.long r2, .ref x0]) (ci := 9) dX9_laysMatches_56 lmX9_295 okX9_isTrue rfl (by decide) rfl (Nat.le_of_ble_eq_true rfl) rfl hb5 (c_X9_isTrue h5) ?_
        refine hs_if_eq (tgt := 68) dX9_laysMatches_59 (by decide) (fun hc6 => ?_) (fun hc6 => ?_)
        · rw [if_pos hc6] at h
          refine hs_sub (lv' := [(0, .ref x0), (2, .int x2)]) [0, 1] rfl ?_
          exact c_X9_laysMatches_b68 (f_X9_laysMatches_b35 n) ih h
        · rw [if_neg hc6] at h
          refine hs_lconst (v := (1 : Int64)) dX9_laysMatches_62 (by decide) ?_
          refine hs_iload_n dX9_laysMatches_63 1 rfl ?_
          refine hs_lshl dX9_laysMatches_64 ?_
          refine hs_goto (tgt := 69) dX9_laysMatches_65 (by decide) ?_
          refine hs_sub (lv' := [(0, .ref x0), (2, .int x2)]) [0, 1] rfl ?_
          exact c_X9_laysMatches_b69 (f_X9_laysMatches_b35 n) ih h
set_option maxHeartbeats 4000000 in
set_option maxRecDepth 20000 in
theorem c_X9_laysMatches {G : hb_G} {l : Launch} {z : Bool} {x0 : Nat} {σ : hb_M} {r : (Int32 × hb_M)} (h : f_X9_laysMatches x0 σ = some r) : hb_Call G l z 8 0 0 mX9_laysMatches [.ref x0] σ (.inl (some (.int r.1)), r.2) := by
  refine hb_met (by decide) (Nat.le_of_ble_eq_true rfl) ?_
  unfold f_X9_laysMatches at h
  refine hs_aload_n dX9_laysMatches_0 0 rfl ?_
  refine hs_iconst (v := (0 : Int32)) dX9_laysMatches_1 (by decide) ?_
  obtain ⟨r1, h1, h⟩ := hb_bind h
  refine hs_putI dX9_laysMatches_2 lpX9_laysMatches_63 rfl h1 ?_
  refine hs_aload_n dX9_laysMatches_5 0 rfl ?_
  obtain ⟨r2, h2, h⟩ := hb_bind h
  obtain ⟨h2, nf2, hb2⟩ := hb_on_at h2
  refine hs_callVi (μ' := mX9_reads) (mc := 0) (ms := 0) (rc := 0) (rs := 0) (As := []) (rest := []) (ci := 9) dX9_laysMatches_6 lmX9_289 okX9_reads rfl (by decide) rfl (Nat.le_of_ble_eq_true rfl) rfl hb2 (c_X9_reads h2) ?_
  refine hs_istore_n (lv' := [(1, .int r2.1), (0, .ref x0)]) dX9_laysMatches_9 (by decide) rfl ?_
  refine hs_iload_n dX9_laysMatches_10 0 rfl ?_
  refine hs_iconst (v := (-1 : Int32)) dX9_laysMatches_11 (by decide) ?_
  refine hs_icmp_eq (tgt := 20) dX9_laysMatches_12 (by decide) (fun hc3 => ?_) (fun hc3 => ?_)
  · rw [if_pos hc3] at h
    refine hs_aload_n dX9_laysMatches_20 1 rfl ?_
    obtain ⟨r4, h4, h⟩ := hb_bind h
    obtain ⟨h4, nf4, hb4⟩ := hb_on_at h4
    refine hs_callVv (μ' := mX9_laysRetained) (mc := 0) (ms := 0) (rc := 0) (rs := 0) (As := []) (rest := []) (ci := 9) dX9_laysMatches_21 lmX9_198 okX9_laysRetained rfl (by decide) rfl (Nat.le_of_ble_eq_true rfl) rfl hb4 (c_X9_laysRetained h4) ?_
    refine hs_aload_n dX9_laysMatches_24 1 rfl ?_
    obtain ⟨r5, h5, h⟩ := hb_bind h
    obtain ⟨h5, nf5, hb5⟩ := hb_on_at h5
    refine hs_callVv (μ' := mX9_laysFar) (mc := 0) (ms := 0) (rc := 0) (rs := 0) (As := []) (rest := []) (ci := 9) dX9_laysMatches_25 lmX9_191 okX9_laysFar rfl (by decide) rfl (Nat.le_of_ble_eq_true rfl) rfl hb5 (c_X9_laysFar h5) ?_
    refine hs_aload_n dX9_laysMatches_28 1 rfl ?_
    refine hs_lconst (v := (0 : Int64)) dX9_laysMatches_29 (by decide) ?_
    obtain ⟨r6, h6, h⟩ := hb_bind h
    refine hs_putL dX9_laysMatches_30 lpX9_laysMatches_292 rfl h6 ?_
    refine hs_iconst (v := (0 : Int32)) dX9_laysMatches_33 (by decide) ?_
    refine hs_istore_n (lv' := [(2, .int (0 : Int32)), (1, .int r2.1), (0, .ref x0)]) dX9_laysMatches_34 (by decide) rfl ?_
    refine hs_sub (lv' := [(0, .ref x0), (2, .int (0 : Int32))]) [2, 0] rfl ?_
    exact c_X9_laysMatches_b35 hb_FU _ _ _ _ h
  · rw [if_neg hc3] at h
    refine hs_bipush (v := (-10 : Int32)) dX9_laysMatches_15 (by decide) ?_
    refine hs_iload_n dX9_laysMatches_17 0 rfl ?_
    refine hs_isub dX9_laysMatches_18 ?_
    obtain rfl := Option.some.inj h
    exact hs_ireturn dX9_laysMatches_19 rfl (by rfl) (fun _ => rfl)
def mX9_matches : hb_Y := (yX9_matches, cX9_matches, 2, (some .int), [], false)
set_option maxHeartbeats 4000000 in
set_option maxRecDepth 20000 in
theorem c_X9_matches {G : hb_G} {l : Launch} {z : Bool} {x0 : Nat} {σ : hb_M} {r : (Int32 × hb_M)} (h : f_X9_matches x0 σ = some r) : hb_Call G l z 9 0 0 mX9_matches [.ref x0] σ (.inl (some (.int r.1)), r.2) := by
  refine hb_met (by decide) (Nat.le_of_ble_eq_true rfl) ?_
  unfold f_X9_matches at h
  refine hs_aload_n dX9_matches_0 0 rfl ?_
  obtain ⟨r1, h1, h⟩ := hb_bind h
  obtain ⟨h1, nf1, hb1⟩ := hb_on_at h1
  refine hs_callVi (μ' := mX9_laysMatches) (mc := 0) (ms := 0) (rc := 0) (rs := 0) (As := []) (rest := []) (ci := 9) dX9_matches_1 lmX9_298 okX9_laysMatches rfl (by decide) rfl (Nat.le_of_ble_eq_true rfl) rfl hb1 (c_X9_laysMatches h1) ?_
  refine hs_istore_n (lv' := [(1, .int r1.1), (0, .ref x0)]) dX9_matches_4 (by decide) rfl ?_
  refine hs_iload_n dX9_matches_5 0 rfl ?_
  refine hs_if_ge (tgt := 13) dX9_matches_6 (by decide) (fun hc2 => ?_) (fun hc2 => ?_)
  · rw [if_pos hc2] at h
    refine hs_aload_n dX9_matches_13 1 rfl ?_
    obtain ⟨r3, h3, h⟩ := hb_bind h
    refine hs_getL dX9_matches_14 lkX9_292 rfl h3 ?_
    obtain ⟨r4, h4, h⟩ := hb_bind h
    refine hs_callSi (μ' := mX9_bits) (mc := 0) (ms := 0) (rc := 0) (rs := 0) (As := [.long r3]) (rest := []) dX9_matches_17 lmX9_211 okX9_bits rfl (by decide) rfl (Nat.le_of_ble_eq_true rfl) (c_X9_bits h4) ?_
    obtain rfl := Option.some.inj h
    exact hs_ireturn dX9_matches_20 rfl (by rfl) (fun _ => rfl)
  · rw [if_neg hc2] at h
    refine hs_iload_n dX9_matches_9 0 rfl ?_
    refine hs_goto (tgt := 20) dX9_matches_10 (by decide) ?_
    obtain rfl := Option.some.inj h
    exact hs_ireturn dX9_matches_20 rfl (by rfl) (fun _ => rfl)
def mX9_matchAt : hb_Y := (yX9_matchAt, cX9_matchAt, 5, (some .int), [], false)
set_option maxHeartbeats 4000000 in
set_option maxRecDepth 20000 in
theorem c_X9_matchAt_b48 {G : hb_G} {l : Launch} {z : Bool}  (k16 : Nat → Int32 → Int32 → Int32 → hb_M → Option (Int32 × hb_M)) (hk16 : ∀ (x0 : Nat) (x1 : Int32) (x3 : Int32) (x4 : Int32) (σ : hb_M) (r : (Int32 × hb_M)), k16 x0 x1 x3 x4 σ = some r → hb_T G l z mX9_matchAt 9 0 0 16 [(0, .ref x0), (1, .int x1), (3, .int x3), (4, .int x4)] [] σ (.inl (some (.int r.1)), r.2))  {x0 : Nat} {x1 : Int32} {x3 : Int32} {x4 : Int32} {σ : hb_M} {r : (Int32 × hb_M)} (h : f_X9_matchAt_b48 k16 x0 x1 x3 x4 σ = some r) : hb_T G l z mX9_matchAt 9 0 0 48 [(0, .ref x0), (1, .int x1), (3, .int x3), (4, .int x4)] [] σ (.inl (some (.int r.1)), r.2) := by
  unfold f_X9_matchAt_b48 at h
  refine hs_iinc2 (k := (1 : Int32)) (lv' := [(4, .int (x4 + (1 : Int32))), (0, .ref x0), (1, .int x1), (3, .int x3)]) dX9_matchAt_48 (by decide) 3 rfl (by decide) rfl ?_
  refine hs_goto (tgt := 16) dX9_matchAt_51 (by decide) ?_
  refine hs_sub (lv' := [(0, .ref x0), (1, .int x1), (3, .int x3), (4, .int (x4 + (1 : Int32)))]) [1, 2, 3, 0] rfl ?_
  exact hk16 _ _ _ _ _ _ h
set_option maxHeartbeats 4000000 in
set_option maxRecDepth 20000 in
theorem c_X9_matchAt_b16 {G : hb_G} {l : Launch} {z : Bool} : ∀ (n : Nat) (x0 : Nat) (x1 : Int32) (x3 : Int32) (x4 : Int32) (σ : hb_M) (r : (Int32 × hb_M)), f_X9_matchAt_b16 n x0 x1 x3 x4 σ = some r → hb_T G l z mX9_matchAt 9 0 0 16 [(0, .ref x0), (1, .int x1), (3, .int x3), (4, .int x4)] [] σ (.inl (some (.int r.1)), r.2) := by
  intro n
  induction n with
  | zero =>
    intro x0 x1 x3 x4 σ r h
    cases h
  | succ n ih =>
    intro x0 x1 x3 x4 σ r h
    rw [f_X9_matchAt_b16] at h
    refine hs_iload dX9_matchAt_16 3 rfl ?_
    refine hs_bipush (v := (40 : Int32)) dX9_matchAt_18 (by decide) ?_
    refine hs_icmp_ge (tgt := 54) dX9_matchAt_20 (by decide) (fun hc1 => ?_) (fun hc1 => ?_)
    · rw [if_pos hc1] at h
      refine hs_iconst (v := (-1 : Int32)) dX9_matchAt_54 (by decide) ?_
      obtain rfl := Option.some.inj h
      exact hs_ireturn dX9_matchAt_55 rfl (by rfl) (fun _ => rfl)
    · rw [if_neg hc1] at h
      refine hs_aload_n dX9_matchAt_23 0 rfl ?_
      obtain ⟨r2, h2, h⟩ := hb_bind h
      refine hs_getL dX9_matchAt_24 lkX9_292 rfl h2 ?_
      refine hs_iload dX9_matchAt_27 3 rfl ?_
      refine hs_lshr dX9_matchAt_29 ?_
      refine hs_lconst (v := (1 : Int64)) dX9_matchAt_30 (by decide) ?_
      refine hs_land dX9_matchAt_31 ?_
      refine hs_lconst (v := (1 : Int64)) dX9_matchAt_32 (by decide) ?_
      refine hs_lcmp dX9_matchAt_33 ?_
      refine hs_if_ne (tgt := 48) dX9_matchAt_34 (by decide) (fun hc3 => ?_) (fun hc3 => ?_)
      · rw [if_neg hc3] at h
        refine hs_sub (lv' := [(0, .ref x0), (1, .int x1), (3, .int x3), (4, .int x4)]) [0, 1, 2, 3] rfl ?_
        exact c_X9_matchAt_b48 (f_X9_matchAt_b16 n) ih h
      · rw [if_pos hc3] at h
        refine hs_iload_n dX9_matchAt_37 2 rfl ?_
        refine hs_iload_n dX9_matchAt_38 1 rfl ?_
        refine hs_icmp_ne (tgt := 45) dX9_matchAt_39 (by decide) (fun hc4 => ?_) (fun hc4 => ?_)
        · rw [if_neg hc4] at h
          refine hs_iinc2 (k := (1 : Int32)) (lv' := [(3, .int (x3 + (1 : Int32))), (0, .ref x0), (1, .int x1), (4, .int x4)]) dX9_matchAt_45 (by decide) 2 rfl (by decide) rfl ?_
          refine hs_sub (lv' := [(0, .ref x0), (1, .int x1), (3, .int (x3 + (1 : Int32))), (4, .int x4)]) [1, 2, 0, 3] rfl ?_
          exact c_X9_matchAt_b48 (f_X9_matchAt_b16 n) ih h
        · rw [if_pos hc4] at h
          refine hs_iload dX9_matchAt_42 3 rfl ?_
          obtain rfl := Option.some.inj h
          exact hs_ireturn dX9_matchAt_44 rfl (by rfl) (fun _ => rfl)
set_option maxHeartbeats 4000000 in
set_option maxRecDepth 20000 in
theorem c_X9_matchAt {G : hb_G} {l : Launch} {z : Bool} {x0 : Nat} {x1 : Int32} {σ : hb_M} {r : (Int32 × hb_M)} (h : f_X9_matchAt x0 x1 σ = some r) : hb_Call G l z 9 0 0 mX9_matchAt [.ref x0, .int x1] σ (.inl (some (.int r.1)), r.2) := by
  refine hb_met (by decide) (Nat.le_of_ble_eq_true rfl) ?_
  unfold f_X9_matchAt at h
  refine hs_aload_n dX9_matchAt_0 0 rfl ?_
  obtain ⟨r1, h1, h⟩ := hb_bind h
  obtain ⟨h1, nf1, hb1⟩ := hb_on_at h1
  refine hs_callVi (μ' := mX9_laysMatches) (mc := 0) (ms := 0) (rc := 0) (rs := 0) (As := []) (rest := []) (ci := 9) dX9_matchAt_1 lmX9_298 okX9_laysMatches rfl (by decide) rfl (Nat.le_of_ble_eq_true rfl) rfl hb1 (c_X9_laysMatches h1) ?_
  refine hs_istore_n (lv' := [(2, .int r1.1), (0, .ref x0), (1, .int x1)]) dX9_matchAt_4 (by decide) rfl ?_
  refine hs_iload_n dX9_matchAt_5 0 rfl ?_
  refine hs_if_ge (tgt := 11) dX9_matchAt_6 (by decide) (fun hc2 => ?_) (fun hc2 => ?_)
  · rw [if_pos hc2] at h
    refine hs_iconst (v := (0 : Int32)) dX9_matchAt_11 (by decide) ?_
    refine hs_istore_n (lv' := [(3, .int (0 : Int32)), (2, .int r1.1), (0, .ref x0), (1, .int x1)]) dX9_matchAt_12 (by decide) rfl ?_
    refine hs_iconst (v := (0 : Int32)) dX9_matchAt_13 (by decide) ?_
    refine hs_istore (lv' := [(4, .int (0 : Int32)), (3, .int (0 : Int32)), (2, .int r1.1), (0, .ref x0), (1, .int x1)]) dX9_matchAt_14 (by decide) rfl ?_
    refine hs_sub (lv' := [(0, .ref x0), (1, .int x1), (3, .int (0 : Int32)), (4, .int (0 : Int32))]) [3, 4, 1, 0] rfl ?_
    exact c_X9_matchAt_b16 hb_FU _ _ _ _ _ _ h
  · rw [if_neg hc2] at h
    refine hs_iload_n dX9_matchAt_9 0 rfl ?_
    obtain rfl := Option.some.inj h
    exact hs_ireturn dX9_matchAt_10 rfl (by rfl) (fun _ => rfl)
