set_option maxHeartbeats 4000000 in
set_option maxRecDepth 20000 in
theorem c_L_law_b1977 {G : hb_G} {l : Launch} (hl : l.stackTraces = false) {n : Nat}  (k23 : Nat → Nat → Nat → Int32 → hb_M → Option (Int32 × hb_M)) (hk23 : ∀ (x1 : Nat) (x2 : Nat) (x3 : Nat) (x4 : Int32) (σ : hb_M) (r : (Int32 × hb_M)), k23 x1 x2 x3 x4 σ = some r → hb_T G l true mL_law 83 (3 * n) (18 * n) 23 [(0, .retAddr 0), (1, .ref x1), (2, .ref x2), (3, .ref x3), (4, .int x4)] [] σ (.inl (some (.int r.1)), r.2))  {x1 : Nat} {x2 : Nat} {x3 : Nat} {x4 : Int32} {s0 : Nat} {s1 : Int32} {s2 : Int32} {s3 : Int32} {σ : hb_M} {r : (Int32 × hb_M)} (h : f_L_law_b1977 G.2.2.2.2.1 G.2.2.2.2.2 k23 x1 x2 x3 x4 s0 s1 s2 s3 σ = some r) : hb_T G l true mL_law 83 (3 * n + 3) (18 * n + 18) 1977 [(0, .retAddr 0), (1, .ref x1), (2, .ref x2), (3, .ref x3), (4, .int x4)] [.int s3, .int s2, .int s1, .ref s0] σ (.inl (some (.int r.1)), r.2) := by
  unfold f_L_law_b1977 at h
  refine hs_aload_n dL_law_1977 3 rfl ?_
  refine hs_weak (rc' := 1 + 3 * n) (rs' := 6 + 18 * n) (by omega) (by omega) ?_
  obtain ⟨r1, h1, h⟩ := hb_bind h
  refine hs_callSXi (μ' := mL_group) (mc := 1) (ms := 6) (rc := (3 * n)) (rs := (18 * n)) (As := [.ref s0, .int s1, .int s2, .int s3, .ref x3]) (rest := []) dL_law_1978 lmL_238 okL_group rfl (by decide) rfl (Nat.le_of_ble_eq_true rfl) (c_L_group hl h1) ?_
  refine hs_istore (lv' := [(5, .int r1.1), (0, .retAddr 0), (1, .ref x1), (2, .ref x2), (3, .ref x3), (4, .int x4)]) dL_law_1981 (by decide) rfl ?_
  refine hs_aload_n dL_law_1983 3 rfl ?_
  refine hs_sload_n dL_law_1984 1 rfl ?_
  refine hs_iload dL_law_1985 5 rfl ?_
  refine hs_iconst (v := (1 : Int32)) dL_law_1987 (by decide) ?_
  refine hs_iadd dL_law_1988 ?_
  by_cases hc2 : (x4 + (1 : Int32)) < 0 ∨ G.2.2.2.2.1 ≤ (x4 + (1 : Int32)).toNatClampNeg
  · rw [if_pos hc2] at h
    cases h
  rw [if_neg hc2] at h
  refine hs_sld hc2 dL_law_1989 ?_
  refine hs_sload_n dL_law_1990 1 rfl ?_
  refine hs_iload dL_law_1991 5 rfl ?_
  refine hs_iconst (v := (2 : Int32)) dL_law_1993 (by decide) ?_
  refine hs_iadd dL_law_1994 ?_
  by_cases hc3 : (x4 + (2 : Int32)) < 0 ∨ G.2.2.2.2.1 ≤ (x4 + (2 : Int32)).toNatClampNeg
  · rw [if_pos hc3] at h
    cases h
  rw [if_neg hc3] at h
  refine hs_sld hc3 dL_law_1995 ?_
  refine hs_sload_n dL_law_1996 1 rfl ?_
  refine hs_iload dL_law_1997 5 rfl ?_
  refine hs_iconst (v := (3 : Int32)) dL_law_1999 (by decide) ?_
  refine hs_iadd dL_law_2000 ?_
  by_cases hc4 : (x4 + (3 : Int32)) < 0 ∨ G.2.2.2.2.1 ≤ (x4 + (3 : Int32)).toNatClampNeg
  · rw [if_pos hc4] at h
    cases h
  rw [if_neg hc4] at h
  refine hs_sld hc4 dL_law_2001 ?_
  refine hs_if_eq (tgt := 2009) dL_law_2002 (by decide) (fun hc5 => ?_) (fun hc5 => ?_)
  · rw [if_pos hc5] at h
    refine hs_iconst (v := (0 : Int32)) dL_law_2009 (by decide) ?_
    refine hs_sub (lv' := [(0, .retAddr 0), (1, .ref x1), (2, .ref x2), (3, .ref x3), (4, .int x4), (5, .int r1.1)]) [1, 2, 3, 4, 5, 0] rfl ?_
    refine hs_weak (rc' := (3 * n)) (rs' := (18 * n)) (by omega) (by omega) ?_
    exact c_L_law_b2010 hl k23 hk23 h
  · rw [if_neg hc5] at h
    refine hs_iconst (v := (1 : Int32)) dL_law_2005 (by decide) ?_
    refine hs_goto (tgt := 2010) dL_law_2006 (by decide) ?_
    refine hs_sub (lv' := [(0, .retAddr 0), (1, .ref x1), (2, .ref x2), (3, .ref x3), (4, .int x4), (5, .int r1.1)]) [1, 2, 3, 4, 5, 0] rfl ?_
    refine hs_weak (rc' := (3 * n)) (rs' := (18 * n)) (by omega) (by omega) ?_
    exact c_L_law_b2010 hl k23 hk23 h
set_option maxHeartbeats 4000000 in
set_option maxRecDepth 20000 in
theorem c_L_law_b1950 {G : hb_G} {l : Launch} (hl : l.stackTraces = false) {n : Nat}  (k23 : Nat → Nat → Nat → Int32 → hb_M → Option (Int32 × hb_M)) (hk23 : ∀ (x1 : Nat) (x2 : Nat) (x3 : Nat) (x4 : Int32) (σ : hb_M) (r : (Int32 × hb_M)), k23 x1 x2 x3 x4 σ = some r → hb_T G l true mL_law 83 (3 * n) (18 * n) 23 [(0, .retAddr 0), (1, .ref x1), (2, .ref x2), (3, .ref x3), (4, .int x4)] [] σ (.inl (some (.int r.1)), r.2))  {x1 : Nat} {x2 : Nat} {x3 : Nat} {x4 : Int32} {σ : hb_M} {r : (Int32 × hb_M)} (h : f_L_law_b1950 G.2.2.2.2.1 G.2.2.2.2.2 k23 x1 x2 x3 x4 σ = some r) : hb_T G l true mL_law 83 (3 * n + 3) (18 * n + 18) 1950 [(0, .retAddr 0), (1, .ref x1), (2, .ref x2), (3, .ref x3), (4, .int x4)] [] σ (.inl (some (.int r.1)), r.2) := by
  unfold f_L_law_b1950 at h
  refine hs_aload_n dL_law_1950 1 rfl ?_
  refine hs_sload_n dL_law_1951 0 rfl ?_
  refine hs_iload dL_law_1952 4 rfl ?_
  refine hs_iconst (v := (1 : Int32)) dL_law_1954 (by decide) ?_
  refine hs_iadd dL_law_1955 ?_
  by_cases hc1 : (x4 + (1 : Int32)) < 0 ∨ G.2.2.2.2.1 ≤ (x4 + (1 : Int32)).toNatClampNeg
  · rw [if_pos hc1] at h
    cases h
  rw [if_neg hc1] at h
  refine hs_sld hc1 dL_law_1956 ?_
  refine hs_sload_n dL_law_1957 0 rfl ?_
  refine hs_iload dL_law_1958 4 rfl ?_
  refine hs_iconst (v := (2 : Int32)) dL_law_1960 (by decide) ?_
  refine hs_iadd dL_law_1961 ?_
  by_cases hc2 : (x4 + (2 : Int32)) < 0 ∨ G.2.2.2.2.1 ≤ (x4 + (2 : Int32)).toNatClampNeg
  · rw [if_pos hc2] at h
    cases h
  rw [if_neg hc2] at h
  refine hs_sld hc2 dL_law_1962 ?_
  refine hs_sload_n dL_law_1963 0 rfl ?_
  refine hs_iload dL_law_1964 4 rfl ?_
  refine hs_iconst (v := (3 : Int32)) dL_law_1966 (by decide) ?_
  refine hs_iadd dL_law_1967 ?_
  by_cases hc3 : (x4 + (3 : Int32)) < 0 ∨ G.2.2.2.2.1 ≤ (x4 + (3 : Int32)).toNatClampNeg
  · rw [if_pos hc3] at h
    cases h
  rw [if_neg hc3] at h
  refine hs_sld hc3 dL_law_1968 ?_
  refine hs_if_eq (tgt := 1976) dL_law_1969 (by decide) (fun hc4 => ?_) (fun hc4 => ?_)
  · rw [if_pos hc4] at h
    refine hs_iconst (v := (0 : Int32)) dL_law_1976 (by decide) ?_
    refine hs_sub (lv' := [(0, .retAddr 0), (1, .ref x1), (2, .ref x2), (3, .ref x3), (4, .int x4)]) [0, 1, 2, 3, 4] rfl ?_
    refine hs_weak (rc' := (3 * n + 3)) (rs' := (18 * n + 18)) (by omega) (by omega) ?_
    exact c_L_law_b1977 hl k23 hk23 h
  · rw [if_neg hc4] at h
    refine hs_iconst (v := (1 : Int32)) dL_law_1972 (by decide) ?_
    refine hs_goto (tgt := 1977) dL_law_1973 (by decide) ?_
    refine hs_sub (lv' := [(0, .retAddr 0), (1, .ref x1), (2, .ref x2), (3, .ref x3), (4, .int x4)]) [0, 1, 2, 3, 4] rfl ?_
    refine hs_weak (rc' := (3 * n + 3)) (rs' := (18 * n + 18)) (by omega) (by omega) ?_
    exact c_L_law_b1977 hl k23 hk23 h
set_option maxHeartbeats 4000000 in
set_option maxRecDepth 20000 in
theorem c_L_law_b1947 {G : hb_G} {l : Launch} (hl : l.stackTraces = false) {n : Nat}  (k23 : Nat → Nat → Nat → Int32 → hb_M → Option (Int32 × hb_M)) (hk23 : ∀ (x1 : Nat) (x2 : Nat) (x3 : Nat) (x4 : Int32) (σ : hb_M) (r : (Int32 × hb_M)), k23 x1 x2 x3 x4 σ = some r → hb_T G l true mL_law 83 (3 * n) (18 * n) 23 [(0, .retAddr 0), (1, .ref x1), (2, .ref x2), (3, .ref x3), (4, .int x4)] [] σ (.inl (some (.int r.1)), r.2))  {x1 : Nat} {x2 : Nat} {x3 : Nat} {x4 : Int32} {σ : hb_M} {r : (Int32 × hb_M)} (h : f_L_law_b1947 G.2.2.2.2.1 G.2.2.2.2.2 k23 x1 x2 x3 x4 σ = some r) : hb_T G l true mL_law 83 (3 * n) (18 * n) 1947 [(0, .retAddr 0), (1, .ref x1), (2, .ref x2), (3, .ref x3), (4, .int x4)] [] σ (.inl (some (.int r.1)), r.2) := by
  unfold f_L_law_b1947 at h
  refine hs_goto (tgt := 2704) dL_law_1947 (by decide) ?_
  refine hs_sub (lv' := [(0, .retAddr 0), (1, .ref x1), (2, .ref x2), (3, .ref x3), (4, .int x4)]) [0, 1, 2, 3, 4] rfl ?_
  refine hs_weak (rc' := (3 * n)) (rs' := (18 * n)) (by omega) (by omega) ?_
  exact c_L_law_b2704 hl k23 hk23 h
set_option maxHeartbeats 4000000 in
set_option maxRecDepth 20000 in
theorem c_L_law_b1894 {G : hb_G} {l : Launch} (hl : l.stackTraces = false) {n : Nat}  (k23 : Nat → Nat → Nat → Int32 → hb_M → Option (Int32 × hb_M)) (hk23 : ∀ (x1 : Nat) (x2 : Nat) (x3 : Nat) (x4 : Int32) (σ : hb_M) (r : (Int32 × hb_M)), k23 x1 x2 x3 x4 σ = some r → hb_T G l true mL_law 83 (3 * n) (18 * n) 23 [(0, .retAddr 0), (1, .ref x1), (2, .ref x2), (3, .ref x3), (4, .int x4)] [] σ (.inl (some (.int r.1)), r.2))  {x1 : Nat} {x2 : Nat} {x3 : Nat} {x4 : Int32} {σ : hb_M} {r : (Int32 × hb_M)} (h : f_L_law_b1894 G.2.2.2.2.1 G.2.2.2.2.2 k23 x1 x2 x3 x4 σ = some r) : hb_T G l true mL_law 83 (3 * n + 3) (18 * n + 18) 1894 [(0, .retAddr 0), (1, .ref x1), (2, .ref x2), (3, .ref x3), (4, .int x4)] [] σ (.inl (some (.int r.1)), r.2) := by
  unfold f_L_law_b1894 at h
  refine hs_aload_n dL_law_1894 1 rfl ?_
  refine hs_sload_n dL_law_1895 0 rfl ?_
  refine hs_iload dL_law_1896 4 rfl ?_
  refine hs_iconst (v := (1 : Int32)) dL_law_1898 (by decide) ?_
  refine hs_iadd dL_law_1899 ?_
  by_cases hc1 : (x4 + (1 : Int32)) < 0 ∨ G.2.2.2.2.1 ≤ (x4 + (1 : Int32)).toNatClampNeg
  · rw [if_pos hc1] at h
    cases h
  rw [if_neg hc1] at h
  refine hs_sld hc1 dL_law_1900 ?_
  refine hs_aload_n dL_law_1901 3 rfl ?_
  refine hs_weak (rc' := 1 + 3 * n) (rs' := 6 + 18 * n) (by omega) (by omega) ?_
  obtain ⟨r2, h2, h⟩ := hb_bind h
  refine hs_callSXi (μ' := mL_freedByUnrooting) (mc := 1) (ms := 6) (rc := (3 * n)) (rs := (18 * n)) (As := [.ref x1, .int (G.2.2.2.2.2 (x4 + (1 : Int32)).toNatClampNeg), .ref x3]) (rest := []) dL_law_1902 lmL_235 okL_freedByUnrooting rfl (by decide) rfl (Nat.le_of_ble_eq_true rfl) (c_L_freedByUnrooting hl h2) ?_
  refine hs_istore (lv' := [(5, .int r2.1), (0, .retAddr 0), (1, .ref x1), (2, .ref x2), (3, .ref x3), (4, .int x4)]) dL_law_1905 (by decide) rfl ?_
  refine hs_aload_n dL_law_1907 3 rfl ?_
  refine hs_sload_n dL_law_1908 1 rfl ?_
  refine hs_iload dL_law_1909 5 rfl ?_
  refine hs_iconst (v := (1 : Int32)) dL_law_1911 (by decide) ?_
  refine hs_iadd dL_law_1912 ?_
  by_cases hc3 : (x4 + (1 : Int32)) < 0 ∨ G.2.2.2.2.1 ≤ (x4 + (1 : Int32)).toNatClampNeg
  · rw [if_pos hc3] at h
    cases h
  rw [if_neg hc3] at h
  refine hs_sld hc3 dL_law_1913 ?_
  refine hs_weak (rc' := 0 + 3 * n) (rs' := 0 + 18 * n) (by omega) (by omega) ?_
  obtain ⟨r4, h4, h⟩ := hb_bind h
  obtain ⟨h4, nf4, hb4⟩ := hb_on_at h4
  refine hs_callVi (μ' := mX9_freedByUnrooting) (mc := 0) (ms := 0) (rc := (3 * n)) (rs := (18 * n)) (As := [.int (G.2.2.2.2.2 (x4 + (1 : Int32)).toNatClampNeg)]) (rest := []) (ci := 9) dL_law_1914 lmL_237 okX9_freedByUnrooting rfl (by decide) rfl (Nat.le_of_ble_eq_true rfl) rfl hb4 (c_X9_freedByUnrooting h4) ?_
  refine hs_istore (lv' := [(6, .int r4.1), (5, .int r2.1), (0, .retAddr 0), (1, .ref x1), (2, .ref x2), (3, .ref x3), (4, .int x4)]) dL_law_1917 (by decide) rfl ?_
  refine hs_aload_n dL_law_1919 4 rfl ?_
  refine hs_weak (rc' := 0 + 3 * n) (rs' := 0 + 18 * n) (by omega) (by omega) ?_
  obtain ⟨r5, h5, h⟩ := hb_bind h
  obtain ⟨h5, nf5, hb5⟩ := hb_on_at h5
  refine hs_callVi (μ' := mX9_thrown) (mc := 0) (ms := 0) (rc := (3 * n)) (rs := (18 * n)) (As := []) (rest := []) (ci := 9) dL_law_1920 lmL_140 okX9_thrown rfl (by decide) rfl (Nat.le_of_ble_eq_true rfl) rfl hb5 (c_X9_thrown h5) ?_
  refine hs_iload dL_law_1923 1 rfl ?_
  refine hs_icmp_eq (tgt := 1930) dL_law_1925 (by decide) (fun hc6 => ?_) (fun hc6 => ?_)
  · rw [if_pos hc6] at h
    refine hs_iload dL_law_1930 1 rfl ?_
    refine hs_if_ne (tgt := 1947) dL_law_1932 (by decide) (fun hc7 => ?_) (fun hc7 => ?_)
    · rw [if_neg hc7] at h
      refine hs_sub (lv' := [(0, .retAddr 0), (1, .ref x1), (2, .ref x2), (3, .ref x3), (4, .int x4)]) [2, 3, 4, 5, 6] rfl ?_
      refine hs_weak (rc' := (3 * n)) (rs' := (18 * n)) (by omega) (by omega) ?_
      exact c_L_law_b1947 hl k23 hk23 h
    · rw [if_pos hc7] at h
      refine hs_aload_n dL_law_1935 5 rfl ?_
      refine hs_iconst (v := (0 : Int32)) dL_law_1936 (by decide) ?_
      obtain ⟨r8, h8, h⟩ := hb_bind h
      refine hs_lald dL_law_1937 h8 ?_
      refine hs_iload dL_law_1938 0 rfl ?_
      refine hs_i2l dL_law_1940 ?_
      refine hs_lcmp dL_law_1941 ?_
      refine hs_if_eq (tgt := 1947) dL_law_1942 (by decide) (fun hc9 => ?_) (fun hc9 => ?_)
      · rw [if_pos hc9] at h
        refine hs_sub (lv' := [(0, .retAddr 0), (1, .ref x1), (2, .ref x2), (3, .ref x3), (4, .int x4)]) [2, 3, 4, 5, 6] rfl ?_
        refine hs_weak (rc' := (3 * n)) (rs' := (18 * n)) (by omega) (by omega) ?_
        exact c_L_law_b1947 hl k23 hk23 h
      · rw [if_neg hc9] at h
        refine hs_iconst (v := (0 : Int32)) dL_law_1945 (by decide) ?_
        obtain rfl := Option.some.inj h
        exact hs_ireturn dL_law_1946 rfl (by decide) (fun h => by cases h)
  · rw [if_neg hc6] at h
    refine hs_iconst (v := (0 : Int32)) dL_law_1928 (by decide) ?_
    obtain rfl := Option.some.inj h
    exact hs_ireturn dL_law_1929 rfl (by decide) (fun h => by cases h)
set_option maxHeartbeats 4000000 in
set_option maxRecDepth 20000 in
theorem c_L_law_b1891 {G : hb_G} {l : Launch} (hl : l.stackTraces = false) {n : Nat}  (k23 : Nat → Nat → Nat → Int32 → hb_M → Option (Int32 × hb_M)) (hk23 : ∀ (x1 : Nat) (x2 : Nat) (x3 : Nat) (x4 : Int32) (σ : hb_M) (r : (Int32 × hb_M)), k23 x1 x2 x3 x4 σ = some r → hb_T G l true mL_law 83 (3 * n) (18 * n) 23 [(0, .retAddr 0), (1, .ref x1), (2, .ref x2), (3, .ref x3), (4, .int x4)] [] σ (.inl (some (.int r.1)), r.2))  {x1 : Nat} {x2 : Nat} {x3 : Nat} {x4 : Int32} {σ : hb_M} {r : (Int32 × hb_M)} (h : f_L_law_b1891 G.2.2.2.2.1 G.2.2.2.2.2 k23 x1 x2 x3 x4 σ = some r) : hb_T G l true mL_law 83 (3 * n) (18 * n) 1891 [(0, .retAddr 0), (1, .ref x1), (2, .ref x2), (3, .ref x3), (4, .int x4)] [] σ (.inl (some (.int r.1)), r.2) := by
  unfold f_L_law_b1891 at h
  refine hs_goto (tgt := 2704) dL_law_1891 (by decide) ?_
  refine hs_sub (lv' := [(0, .retAddr 0), (1, .ref x1), (2, .ref x2), (3, .ref x3), (4, .int x4)]) [0, 1, 2, 3, 4] rfl ?_
  refine hs_weak (rc' := (3 * n)) (rs' := (18 * n)) (by omega) (by omega) ?_
  exact c_L_law_b2704 hl k23 hk23 h
set_option maxHeartbeats 4000000 in
set_option maxRecDepth 20000 in
theorem c_L_law_b1826 {G : hb_G} {l : Launch} (hl : l.stackTraces = false) {n : Nat}  (k23 : Nat → Nat → Nat → Int32 → hb_M → Option (Int32 × hb_M)) (hk23 : ∀ (x1 : Nat) (x2 : Nat) (x3 : Nat) (x4 : Int32) (σ : hb_M) (r : (Int32 × hb_M)), k23 x1 x2 x3 x4 σ = some r → hb_T G l true mL_law 83 (3 * n) (18 * n) 23 [(0, .retAddr 0), (1, .ref x1), (2, .ref x2), (3, .ref x3), (4, .int x4)] [] σ (.inl (some (.int r.1)), r.2))  {x1 : Nat} {x2 : Nat} {x3 : Nat} {x4 : Int32} {σ : hb_M} {r : (Int32 × hb_M)} (h : f_L_law_b1826 G.2.2.2.2.1 G.2.2.2.2.2 k23 x1 x2 x3 x4 σ = some r) : hb_T G l true mL_law 83 (3 * n + 3) (18 * n + 18) 1826 [(0, .retAddr 0), (1, .ref x1), (2, .ref x2), (3, .ref x3), (4, .int x4)] [] σ (.inl (some (.int r.1)), r.2) := by
  unfold f_L_law_b1826 at h
  refine hs_aload_n dL_law_1826 1 rfl ?_
  refine hs_sload_n dL_law_1827 0 rfl ?_
  refine hs_iload dL_law_1828 4 rfl ?_
  refine hs_iconst (v := (1 : Int32)) dL_law_1830 (by decide) ?_
  refine hs_iadd dL_law_1831 ?_
  by_cases hc1 : (x4 + (1 : Int32)) < 0 ∨ G.2.2.2.2.1 ≤ (x4 + (1 : Int32)).toNatClampNeg
  · rw [if_pos hc1] at h
    cases h
  rw [if_neg hc1] at h
  refine hs_sld hc1 dL_law_1832 ?_
  refine hs_sload_n dL_law_1833 0 rfl ?_
  refine hs_iload dL_law_1834 4 rfl ?_
  refine hs_iconst (v := (2 : Int32)) dL_law_1836 (by decide) ?_
  refine hs_iadd dL_law_1837 ?_
  by_cases hc2 : (x4 + (2 : Int32)) < 0 ∨ G.2.2.2.2.1 ≤ (x4 + (2 : Int32)).toNatClampNeg
  · rw [if_pos hc2] at h
    cases h
  rw [if_neg hc2] at h
  refine hs_sld hc2 dL_law_1838 ?_
  refine hs_aload_n dL_law_1839 3 rfl ?_
  refine hs_weak (rc' := 1 + 3 * n) (rs' := 6 + 18 * n) (by omega) (by omega) ?_
  obtain ⟨r3, h3, h⟩ := hb_bind h
  refine hs_callSXi (μ' := mL_freedByClearing) (mc := 1) (ms := 6) (rc := (3 * n)) (rs := (18 * n)) (As := [.ref x1, .int (G.2.2.2.2.2 (x4 + (1 : Int32)).toNatClampNeg), .int (G.2.2.2.2.2 (x4 + (2 : Int32)).toNatClampNeg), .ref x3]) (rest := []) dL_law_1840 lmL_232 okL_freedByClearing rfl (by decide) rfl (Nat.le_of_ble_eq_true rfl) (c_L_freedByClearing hl h3) ?_
  refine hs_istore (lv' := [(5, .int r3.1), (0, .retAddr 0), (1, .ref x1), (2, .ref x2), (3, .ref x3), (4, .int x4)]) dL_law_1843 (by decide) rfl ?_
  refine hs_aload_n dL_law_1845 3 rfl ?_
  refine hs_sload_n dL_law_1846 1 rfl ?_
  refine hs_iload dL_law_1847 5 rfl ?_
  refine hs_iconst (v := (1 : Int32)) dL_law_1849 (by decide) ?_
  refine hs_iadd dL_law_1850 ?_
  by_cases hc4 : (x4 + (1 : Int32)) < 0 ∨ G.2.2.2.2.1 ≤ (x4 + (1 : Int32)).toNatClampNeg
  · rw [if_pos hc4] at h
    cases h
  rw [if_neg hc4] at h
  refine hs_sld hc4 dL_law_1851 ?_
  refine hs_sload_n dL_law_1852 1 rfl ?_
  refine hs_iload dL_law_1853 5 rfl ?_
  refine hs_iconst (v := (2 : Int32)) dL_law_1855 (by decide) ?_
  refine hs_iadd dL_law_1856 ?_
  by_cases hc5 : (x4 + (2 : Int32)) < 0 ∨ G.2.2.2.2.1 ≤ (x4 + (2 : Int32)).toNatClampNeg
  · rw [if_pos hc5] at h
    cases h
  rw [if_neg hc5] at h
  refine hs_sld hc5 dL_law_1857 ?_
  refine hs_weak (rc' := 0 + 3 * n) (rs' := 0 + 18 * n) (by omega) (by omega) ?_
  obtain ⟨r6, h6, h⟩ := hb_bind h
  obtain ⟨h6, nf6, hb6⟩ := hb_on_at h6
  refine hs_callVi (μ' := mX9_freedByClearing) (mc := 0) (ms := 0) (rc := (3 * n)) (rs := (18 * n)) (As := [.int (G.2.2.2.2.2 (x4 + (1 : Int32)).toNatClampNeg), .int (G.2.2.2.2.2 (x4 + (2 : Int32)).toNatClampNeg)]) (rest := []) (ci := 9) dL_law_1858 lmL_234 okX9_freedByClearing rfl (by decide) rfl (Nat.le_of_ble_eq_true rfl) rfl hb6 (c_X9_freedByClearing h6) ?_
  refine hs_istore (lv' := [(6, .int r6.1), (5, .int r3.1), (0, .retAddr 0), (1, .ref x1), (2, .ref x2), (3, .ref x3), (4, .int x4)]) dL_law_1861 (by decide) rfl ?_
  refine hs_aload_n dL_law_1863 4 rfl ?_
  refine hs_weak (rc' := 0 + 3 * n) (rs' := 0 + 18 * n) (by omega) (by omega) ?_
  obtain ⟨r7, h7, h⟩ := hb_bind h
  obtain ⟨h7, nf7, hb7⟩ := hb_on_at h7
  refine hs_callVi (μ' := mX9_thrown) (mc := 0) (ms := 0) (rc := (3 * n)) (rs := (18 * n)) (As := []) (rest := []) (ci := 9) dL_law_1864 lmL_140 okX9_thrown rfl (by decide) rfl (Nat.le_of_ble_eq_true rfl) rfl hb7 (c_X9_thrown h7) ?_
  refine hs_iload dL_law_1867 1 rfl ?_
  refine hs_icmp_eq (tgt := 1874) dL_law_1869 (by decide) (fun hc8 => ?_) (fun hc8 => ?_)
  · rw [if_pos hc8] at h
    refine hs_iload dL_law_1874 1 rfl ?_
    refine hs_if_ne (tgt := 1891) dL_law_1876 (by decide) (fun hc9 => ?_) (fun hc9 => ?_)
    · rw [if_neg hc9] at h
      refine hs_sub (lv' := [(0, .retAddr 0), (1, .ref x1), (2, .ref x2), (3, .ref x3), (4, .int x4)]) [2, 3, 4, 5, 6] rfl ?_
      refine hs_weak (rc' := (3 * n)) (rs' := (18 * n)) (by omega) (by omega) ?_
      exact c_L_law_b1891 hl k23 hk23 h
    · rw [if_pos hc9] at h
      refine hs_aload_n dL_law_1879 5 rfl ?_
      refine hs_iconst (v := (0 : Int32)) dL_law_1880 (by decide) ?_
      obtain ⟨r10, h10, h⟩ := hb_bind h
      refine hs_lald dL_law_1881 h10 ?_
      refine hs_iload dL_law_1882 0 rfl ?_
      refine hs_i2l dL_law_1884 ?_
      refine hs_lcmp dL_law_1885 ?_
      refine hs_if_eq (tgt := 1891) dL_law_1886 (by decide) (fun hc11 => ?_) (fun hc11 => ?_)
      · rw [if_pos hc11] at h
        refine hs_sub (lv' := [(0, .retAddr 0), (1, .ref x1), (2, .ref x2), (3, .ref x3), (4, .int x4)]) [2, 3, 4, 5, 6] rfl ?_
        refine hs_weak (rc' := (3 * n)) (rs' := (18 * n)) (by omega) (by omega) ?_
        exact c_L_law_b1891 hl k23 hk23 h
      · rw [if_neg hc11] at h
        refine hs_iconst (v := (0 : Int32)) dL_law_1889 (by decide) ?_
        obtain rfl := Option.some.inj h
        exact hs_ireturn dL_law_1890 rfl (by decide) (fun h => by cases h)
  · rw [if_neg hc8] at h
    refine hs_iconst (v := (0 : Int32)) dL_law_1872 (by decide) ?_
    obtain rfl := Option.some.inj h
    exact hs_ireturn dL_law_1873 rfl (by decide) (fun h => by cases h)
set_option maxHeartbeats 4000000 in
set_option maxRecDepth 20000 in
theorem c_L_law_b1823 {G : hb_G} {l : Launch} (hl : l.stackTraces = false) {n : Nat}  (k23 : Nat → Nat → Nat → Int32 → hb_M → Option (Int32 × hb_M)) (hk23 : ∀ (x1 : Nat) (x2 : Nat) (x3 : Nat) (x4 : Int32) (σ : hb_M) (r : (Int32 × hb_M)), k23 x1 x2 x3 x4 σ = some r → hb_T G l true mL_law 83 (3 * n) (18 * n) 23 [(0, .retAddr 0), (1, .ref x1), (2, .ref x2), (3, .ref x3), (4, .int x4)] [] σ (.inl (some (.int r.1)), r.2))  {x1 : Nat} {x2 : Nat} {x3 : Nat} {x4 : Int32} {σ : hb_M} {r : (Int32 × hb_M)} (h : f_L_law_b1823 G.2.2.2.2.1 G.2.2.2.2.2 k23 x1 x2 x3 x4 σ = some r) : hb_T G l true mL_law 83 (3 * n) (18 * n) 1823 [(0, .retAddr 0), (1, .ref x1), (2, .ref x2), (3, .ref x3), (4, .int x4)] [] σ (.inl (some (.int r.1)), r.2) := by
  unfold f_L_law_b1823 at h
  refine hs_goto (tgt := 2704) dL_law_1823 (by decide) ?_
  refine hs_sub (lv' := [(0, .retAddr 0), (1, .ref x1), (2, .ref x2), (3, .ref x3), (4, .int x4)]) [0, 1, 2, 3, 4] rfl ?_
  refine hs_weak (rc' := (3 * n)) (rs' := (18 * n)) (by omega) (by omega) ?_
  exact c_L_law_b2704 hl k23 hk23 h
set_option maxHeartbeats 4000000 in
set_option maxRecDepth 20000 in
theorem c_L_law_b1770 {G : hb_G} {l : Launch} (hl : l.stackTraces = false) {n : Nat}  (k23 : Nat → Nat → Nat → Int32 → hb_M → Option (Int32 × hb_M)) (hk23 : ∀ (x1 : Nat) (x2 : Nat) (x3 : Nat) (x4 : Int32) (σ : hb_M) (r : (Int32 × hb_M)), k23 x1 x2 x3 x4 σ = some r → hb_T G l true mL_law 83 (3 * n) (18 * n) 23 [(0, .retAddr 0), (1, .ref x1), (2, .ref x2), (3, .ref x3), (4, .int x4)] [] σ (.inl (some (.int r.1)), r.2))  {x1 : Nat} {x2 : Nat} {x3 : Nat} {x4 : Int32} {σ : hb_M} {r : (Int32 × hb_M)} (h : f_L_law_b1770 G.2.2.2.2.1 G.2.2.2.2.2 k23 x1 x2 x3 x4 σ = some r) : hb_T G l true mL_law 83 (3 * n + 3) (18 * n + 18) 1770 [(0, .retAddr 0), (1, .ref x1), (2, .ref x2), (3, .ref x3), (4, .int x4)] [] σ (.inl (some (.int r.1)), r.2) := by
  unfold f_L_law_b1770 at h
  refine hs_aload_n dL_law_1770 1 rfl ?_
  refine hs_sload_n dL_law_1771 0 rfl ?_
  refine hs_iload dL_law_1772 4 rfl ?_
  refine hs_iconst (v := (1 : Int32)) dL_law_1774 (by decide) ?_
  refine hs_iadd dL_law_1775 ?_
  by_cases hc1 : (x4 + (1 : Int32)) < 0 ∨ G.2.2.2.2.1 ≤ (x4 + (1 : Int32)).toNatClampNeg
  · rw [if_pos hc1] at h
    cases h
  rw [if_neg hc1] at h
  refine hs_sld hc1 dL_law_1776 ?_
  refine hs_aload_n dL_law_1777 3 rfl ?_
  refine hs_weak (rc' := 1 + 3 * n) (rs' := 6 + 18 * n) (by omega) (by omega) ?_
  obtain ⟨r2, h2, h⟩ := hb_bind h
  refine hs_callSXi (μ' := mL_componentSize) (mc := 1) (ms := 6) (rc := (3 * n)) (rs := (18 * n)) (As := [.ref x1, .int (G.2.2.2.2.2 (x4 + (1 : Int32)).toNatClampNeg), .ref x3]) (rest := []) dL_law_1778 lmL_229 okL_componentSize rfl (by decide) rfl (Nat.le_of_ble_eq_true rfl) (c_L_componentSize hl h2) ?_
  refine hs_istore (lv' := [(5, .int r2.1), (0, .retAddr 0), (1, .ref x1), (2, .ref x2), (3, .ref x3), (4, .int x4)]) dL_law_1781 (by decide) rfl ?_
  refine hs_aload_n dL_law_1783 3 rfl ?_
  refine hs_sload_n dL_law_1784 1 rfl ?_
  refine hs_iload dL_law_1785 5 rfl ?_
  refine hs_iconst (v := (1 : Int32)) dL_law_1787 (by decide) ?_
  refine hs_iadd dL_law_1788 ?_
  by_cases hc3 : (x4 + (1 : Int32)) < 0 ∨ G.2.2.2.2.1 ≤ (x4 + (1 : Int32)).toNatClampNeg
  · rw [if_pos hc3] at h
    cases h
  rw [if_neg hc3] at h
  refine hs_sld hc3 dL_law_1789 ?_
  refine hs_weak (rc' := 0 + 3 * n) (rs' := 0 + 18 * n) (by omega) (by omega) ?_
  obtain ⟨r4, h4, h⟩ := hb_bind h
  obtain ⟨h4, nf4, hb4⟩ := hb_on_at h4
  refine hs_callVi (μ' := mX9_componentSize) (mc := 0) (ms := 0) (rc := (3 * n)) (rs := (18 * n)) (As := [.int (G.2.2.2.2.2 (x4 + (1 : Int32)).toNatClampNeg)]) (rest := []) (ci := 9) dL_law_1790 lmL_231 okX9_componentSize rfl (by decide) rfl (Nat.le_of_ble_eq_true rfl) rfl hb4 (c_X9_componentSize h4) ?_
  refine hs_istore (lv' := [(6, .int r4.1), (5, .int r2.1), (0, .retAddr 0), (1, .ref x1), (2, .ref x2), (3, .ref x3), (4, .int x4)]) dL_law_1793 (by decide) rfl ?_
  refine hs_aload_n dL_law_1795 4 rfl ?_
  refine hs_weak (rc' := 0 + 3 * n) (rs' := 0 + 18 * n) (by omega) (by omega) ?_
  obtain ⟨r5, h5, h⟩ := hb_bind h
  obtain ⟨h5, nf5, hb5⟩ := hb_on_at h5
  refine hs_callVi (μ' := mX9_thrown) (mc := 0) (ms := 0) (rc := (3 * n)) (rs := (18 * n)) (As := []) (rest := []) (ci := 9) dL_law_1796 lmL_140 okX9_thrown rfl (by decide) rfl (Nat.le_of_ble_eq_true rfl) rfl hb5 (c_X9_thrown h5) ?_
  refine hs_iload dL_law_1799 1 rfl ?_
  refine hs_icmp_eq (tgt := 1806) dL_law_1801 (by decide) (fun hc6 => ?_) (fun hc6 => ?_)
  · rw [if_pos hc6] at h
    refine hs_iload dL_law_1806 1 rfl ?_
    refine hs_if_ne (tgt := 1823) dL_law_1808 (by decide) (fun hc7 => ?_) (fun hc7 => ?_)
    · rw [if_neg hc7] at h
      refine hs_sub (lv' := [(0, .retAddr 0), (1, .ref x1), (2, .ref x2), (3, .ref x3), (4, .int x4)]) [2, 3, 4, 5, 6] rfl ?_
      refine hs_weak (rc' := (3 * n)) (rs' := (18 * n)) (by omega) (by omega) ?_
      exact c_L_law_b1823 hl k23 hk23 h
    · rw [if_pos hc7] at h
      refine hs_aload_n dL_law_1811 5 rfl ?_
      refine hs_iconst (v := (0 : Int32)) dL_law_1812 (by decide) ?_
      obtain ⟨r8, h8, h⟩ := hb_bind h
      refine hs_lald dL_law_1813 h8 ?_
      refine hs_iload dL_law_1814 0 rfl ?_
      refine hs_i2l dL_law_1816 ?_
      refine hs_lcmp dL_law_1817 ?_
      refine hs_if_eq (tgt := 1823) dL_law_1818 (by decide) (fun hc9 => ?_) (fun hc9 => ?_)
      · rw [if_pos hc9] at h
        refine hs_sub (lv' := [(0, .retAddr 0), (1, .ref x1), (2, .ref x2), (3, .ref x3), (4, .int x4)]) [2, 3, 4, 5, 6] rfl ?_
        refine hs_weak (rc' := (3 * n)) (rs' := (18 * n)) (by omega) (by omega) ?_
        exact c_L_law_b1823 hl k23 hk23 h
      · rw [if_neg hc9] at h
        refine hs_iconst (v := (0 : Int32)) dL_law_1821 (by decide) ?_
        obtain rfl := Option.some.inj h
        exact hs_ireturn dL_law_1822 rfl (by decide) (fun h => by cases h)
  · rw [if_neg hc6] at h
    refine hs_iconst (v := (0 : Int32)) dL_law_1804 (by decide) ?_
    obtain rfl := Option.some.inj h
    exact hs_ireturn dL_law_1805 rfl (by decide) (fun h => by cases h)
set_option maxHeartbeats 4000000 in
set_option maxRecDepth 20000 in
theorem c_L_law_b1767 {G : hb_G} {l : Launch} (hl : l.stackTraces = false) {n : Nat}  (k23 : Nat → Nat → Nat → Int32 → hb_M → Option (Int32 × hb_M)) (hk23 : ∀ (x1 : Nat) (x2 : Nat) (x3 : Nat) (x4 : Int32) (σ : hb_M) (r : (Int32 × hb_M)), k23 x1 x2 x3 x4 σ = some r → hb_T G l true mL_law 83 (3 * n) (18 * n) 23 [(0, .retAddr 0), (1, .ref x1), (2, .ref x2), (3, .ref x3), (4, .int x4)] [] σ (.inl (some (.int r.1)), r.2))  {x1 : Nat} {x2 : Nat} {x3 : Nat} {x4 : Int32} {σ : hb_M} {r : (Int32 × hb_M)} (h : f_L_law_b1767 G.2.2.2.2.1 G.2.2.2.2.2 k23 x1 x2 x3 x4 σ = some r) : hb_T G l true mL_law 83 (3 * n) (18 * n) 1767 [(0, .retAddr 0), (1, .ref x1), (2, .ref x2), (3, .ref x3), (4, .int x4)] [] σ (.inl (some (.int r.1)), r.2) := by
  unfold f_L_law_b1767 at h
  refine hs_goto (tgt := 2704) dL_law_1767 (by decide) ?_
  refine hs_sub (lv' := [(0, .retAddr 0), (1, .ref x1), (2, .ref x2), (3, .ref x3), (4, .int x4)]) [0, 1, 2, 3, 4] rfl ?_
  refine hs_weak (rc' := (3 * n)) (rs' := (18 * n)) (by omega) (by omega) ?_
  exact c_L_law_b2704 hl k23 hk23 h
set_option maxHeartbeats 4000000 in
set_option maxRecDepth 20000 in
theorem c_L_law_b1714 {G : hb_G} {l : Launch} (hl : l.stackTraces = false) {n : Nat}  (k23 : Nat → Nat → Nat → Int32 → hb_M → Option (Int32 × hb_M)) (hk23 : ∀ (x1 : Nat) (x2 : Nat) (x3 : Nat) (x4 : Int32) (σ : hb_M) (r : (Int32 × hb_M)), k23 x1 x2 x3 x4 σ = some r → hb_T G l true mL_law 83 (3 * n) (18 * n) 23 [(0, .retAddr 0), (1, .ref x1), (2, .ref x2), (3, .ref x3), (4, .int x4)] [] σ (.inl (some (.int r.1)), r.2))  {x1 : Nat} {x2 : Nat} {x3 : Nat} {x4 : Int32} {σ : hb_M} {r : (Int32 × hb_M)} (h : f_L_law_b1714 G.2.2.2.2.1 G.2.2.2.2.2 k23 x1 x2 x3 x4 σ = some r) : hb_T G l true mL_law 83 (3 * n + 3) (18 * n + 18) 1714 [(0, .retAddr 0), (1, .ref x1), (2, .ref x2), (3, .ref x3), (4, .int x4)] [] σ (.inl (some (.int r.1)), r.2) := by
  unfold f_L_law_b1714 at h
  refine hs_aload_n dL_law_1714 1 rfl ?_
  refine hs_sload_n dL_law_1715 0 rfl ?_
  refine hs_iload dL_law_1716 4 rfl ?_
  refine hs_iconst (v := (1 : Int32)) dL_law_1718 (by decide) ?_
  refine hs_iadd dL_law_1719 ?_
  by_cases hc1 : (x4 + (1 : Int32)) < 0 ∨ G.2.2.2.2.1 ≤ (x4 + (1 : Int32)).toNatClampNeg
  · rw [if_pos hc1] at h
    cases h
  rw [if_neg hc1] at h
  refine hs_sld hc1 dL_law_1720 ?_
  refine hs_aload_n dL_law_1721 3 rfl ?_
  refine hs_weak (rc' := 1 + 3 * n) (rs' := 6 + 18 * n) (by omega) (by omega) ?_
  obtain ⟨r2, h2, h⟩ := hb_bind h
  refine hs_callSXi (μ' := mL_component) (mc := 1) (ms := 6) (rc := (3 * n)) (rs := (18 * n)) (As := [.ref x1, .int (G.2.2.2.2.2 (x4 + (1 : Int32)).toNatClampNeg), .ref x3]) (rest := []) dL_law_1722 lmL_226 okL_component rfl (by decide) rfl (Nat.le_of_ble_eq_true rfl) (c_L_component hl h2) ?_
  refine hs_istore (lv' := [(5, .int r2.1), (0, .retAddr 0), (1, .ref x1), (2, .ref x2), (3, .ref x3), (4, .int x4)]) dL_law_1725 (by decide) rfl ?_
  refine hs_aload_n dL_law_1727 3 rfl ?_
  refine hs_sload_n dL_law_1728 1 rfl ?_
  refine hs_iload dL_law_1729 5 rfl ?_
  refine hs_iconst (v := (1 : Int32)) dL_law_1731 (by decide) ?_
  refine hs_iadd dL_law_1732 ?_
  by_cases hc3 : (x4 + (1 : Int32)) < 0 ∨ G.2.2.2.2.1 ≤ (x4 + (1 : Int32)).toNatClampNeg
  · rw [if_pos hc3] at h
    cases h
  rw [if_neg hc3] at h
  refine hs_sld hc3 dL_law_1733 ?_
  refine hs_weak (rc' := 0 + 3 * n) (rs' := 0 + 18 * n) (by omega) (by omega) ?_
  obtain ⟨r4, h4, h⟩ := hb_bind h
  obtain ⟨h4, nf4, hb4⟩ := hb_on_at h4
  refine hs_callVi (μ' := mX9_component) (mc := 0) (ms := 0) (rc := (3 * n)) (rs := (18 * n)) (As := [.int (G.2.2.2.2.2 (x4 + (1 : Int32)).toNatClampNeg)]) (rest := []) (ci := 9) dL_law_1734 lmL_228 okX9_component rfl (by decide) rfl (Nat.le_of_ble_eq_true rfl) rfl hb4 (c_X9_component h4) ?_
  refine hs_istore (lv' := [(6, .int r4.1), (5, .int r2.1), (0, .retAddr 0), (1, .ref x1), (2, .ref x2), (3, .ref x3), (4, .int x4)]) dL_law_1737 (by decide) rfl ?_
  refine hs_aload_n dL_law_1739 4 rfl ?_
  refine hs_weak (rc' := 0 + 3 * n) (rs' := 0 + 18 * n) (by omega) (by omega) ?_
  obtain ⟨r5, h5, h⟩ := hb_bind h
  obtain ⟨h5, nf5, hb5⟩ := hb_on_at h5
  refine hs_callVi (μ' := mX9_thrown) (mc := 0) (ms := 0) (rc := (3 * n)) (rs := (18 * n)) (As := []) (rest := []) (ci := 9) dL_law_1740 lmL_140 okX9_thrown rfl (by decide) rfl (Nat.le_of_ble_eq_true rfl) rfl hb5 (c_X9_thrown h5) ?_
  refine hs_iload dL_law_1743 1 rfl ?_
  refine hs_icmp_eq (tgt := 1750) dL_law_1745 (by decide) (fun hc6 => ?_) (fun hc6 => ?_)
  · rw [if_pos hc6] at h
    refine hs_iload dL_law_1750 1 rfl ?_
    refine hs_if_ne (tgt := 1767) dL_law_1752 (by decide) (fun hc7 => ?_) (fun hc7 => ?_)
    · rw [if_neg hc7] at h
      refine hs_sub (lv' := [(0, .retAddr 0), (1, .ref x1), (2, .ref x2), (3, .ref x3), (4, .int x4)]) [2, 3, 4, 5, 6] rfl ?_
      refine hs_weak (rc' := (3 * n)) (rs' := (18 * n)) (by omega) (by omega) ?_
      exact c_L_law_b1767 hl k23 hk23 h
    · rw [if_pos hc7] at h
      refine hs_aload_n dL_law_1755 5 rfl ?_
      refine hs_iconst (v := (0 : Int32)) dL_law_1756 (by decide) ?_
      obtain ⟨r8, h8, h⟩ := hb_bind h
      refine hs_lald dL_law_1757 h8 ?_
      refine hs_iload dL_law_1758 0 rfl ?_
      refine hs_i2l dL_law_1760 ?_
      refine hs_lcmp dL_law_1761 ?_
      refine hs_if_eq (tgt := 1767) dL_law_1762 (by decide) (fun hc9 => ?_) (fun hc9 => ?_)
      · rw [if_pos hc9] at h
        refine hs_sub (lv' := [(0, .retAddr 0), (1, .ref x1), (2, .ref x2), (3, .ref x3), (4, .int x4)]) [2, 3, 4, 5, 6] rfl ?_
        refine hs_weak (rc' := (3 * n)) (rs' := (18 * n)) (by omega) (by omega) ?_
        exact c_L_law_b1767 hl k23 hk23 h
      · rw [if_neg hc9] at h
        refine hs_iconst (v := (0 : Int32)) dL_law_1765 (by decide) ?_
        obtain rfl := Option.some.inj h
        exact hs_ireturn dL_law_1766 rfl (by decide) (fun h => by cases h)
  · rw [if_neg hc6] at h
    refine hs_iconst (v := (0 : Int32)) dL_law_1748 (by decide) ?_
    obtain rfl := Option.some.inj h
    exact hs_ireturn dL_law_1749 rfl (by decide) (fun h => by cases h)
