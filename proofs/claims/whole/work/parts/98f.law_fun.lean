set_option maxHeartbeats 4000000 in
set_option maxRecDepth 20000 in
theorem c_L_law_b2225 {G : hb_G} {l : Launch} (hl : l.stackTraces = false) {n : Nat}  (k23 : Nat → Nat → Nat → Int32 → hb_M → Option (Int32 × hb_M)) (hk23 : ∀ (x1 : Nat) (x2 : Nat) (x3 : Nat) (x4 : Int32) (σ : hb_M) (r : (Int32 × hb_M)), k23 x1 x2 x3 x4 σ = some r → hb_T G l true mL_law 83 (3 * n) (18 * n) 23 [(0, .retAddr 0), (1, .ref x1), (2, .ref x2), (3, .ref x3), (4, .int x4)] [] σ (.inl (some (.int r.1)), r.2))  {x1 : Nat} {x2 : Nat} {x3 : Nat} {x4 : Int32} {σ : hb_M} {r : (Int32 × hb_M)} (h : f_L_law_b2225 G.2.2.2.2.1 G.2.2.2.2.2 k23 x1 x2 x3 x4 σ = some r) : hb_T G l true mL_law 83 (3 * n + 3) (18 * n + 18) 2225 [(0, .retAddr 0), (1, .ref x1), (2, .ref x2), (3, .ref x3), (4, .int x4)] [] σ (.inl (some (.int r.1)), r.2) := by
  unfold f_L_law_b2225 at h
  refine hs_aload_n dL_law_2225 1 rfl ?_
  refine hs_sload_n dL_law_2226 0 rfl ?_
  refine hs_iload dL_law_2227 4 rfl ?_
  refine hs_iconst (v := (1 : Int32)) dL_law_2229 (by decide) ?_
  refine hs_iadd dL_law_2230 ?_
  by_cases hc1 : (x4 + (1 : Int32)) < 0 ∨ G.2.2.2.2.1 ≤ (x4 + (1 : Int32)).toNatClampNeg
  · rw [if_pos hc1] at h
    cases h
  rw [if_neg hc1] at h
  refine hs_sld hc1 dL_law_2231 ?_
  refine hs_sload_n dL_law_2232 0 rfl ?_
  refine hs_iload dL_law_2233 4 rfl ?_
  refine hs_iconst (v := (2 : Int32)) dL_law_2235 (by decide) ?_
  refine hs_iadd dL_law_2236 ?_
  by_cases hc2 : (x4 + (2 : Int32)) < 0 ∨ G.2.2.2.2.1 ≤ (x4 + (2 : Int32)).toNatClampNeg
  · rw [if_pos hc2] at h
    cases h
  rw [if_neg hc2] at h
  refine hs_sld hc2 dL_law_2237 ?_
  refine hs_aload_n dL_law_2238 3 rfl ?_
  refine hs_weak (rc' := 3 + 3 * n) (rs' := 18 + 18 * n) (by omega) (by omega) ?_
  obtain ⟨r3, h3, h⟩ := hb_bind h
  refine hs_callSXi (μ' := mL_accumulationPoint) (mc := 3) (ms := 18) (rc := (3 * n)) (rs := (18 * n)) (As := [.ref x1, .int (G.2.2.2.2.2 (x4 + (1 : Int32)).toNatClampNeg), .int (G.2.2.2.2.2 (x4 + (2 : Int32)).toNatClampNeg), .ref x3]) (rest := []) dL_law_2239 lmL_251 okL_accumulationPoint rfl (by decide) rfl (Nat.le_of_ble_eq_true rfl) (c_L_accumulationPoint hl h3) ?_
  refine hs_istore (lv' := [(5, .int r3.1), (0, .retAddr 0), (1, .ref x1), (2, .ref x2), (3, .ref x3), (4, .int x4)]) dL_law_2242 (by decide) rfl ?_
  refine hs_aload_n dL_law_2244 3 rfl ?_
  refine hs_sload_n dL_law_2245 1 rfl ?_
  refine hs_iload dL_law_2246 5 rfl ?_
  refine hs_iconst (v := (1 : Int32)) dL_law_2248 (by decide) ?_
  refine hs_iadd dL_law_2249 ?_
  by_cases hc4 : (x4 + (1 : Int32)) < 0 ∨ G.2.2.2.2.1 ≤ (x4 + (1 : Int32)).toNatClampNeg
  · rw [if_pos hc4] at h
    cases h
  rw [if_neg hc4] at h
  refine hs_sld hc4 dL_law_2250 ?_
  refine hs_sload_n dL_law_2251 1 rfl ?_
  refine hs_iload dL_law_2252 5 rfl ?_
  refine hs_iconst (v := (2 : Int32)) dL_law_2254 (by decide) ?_
  refine hs_iadd dL_law_2255 ?_
  by_cases hc5 : (x4 + (2 : Int32)) < 0 ∨ G.2.2.2.2.1 ≤ (x4 + (2 : Int32)).toNatClampNeg
  · rw [if_pos hc5] at h
    cases h
  rw [if_neg hc5] at h
  refine hs_sld hc5 dL_law_2256 ?_
  refine hs_weak (rc' := 0 + 3 * n) (rs' := 0 + 18 * n) (by omega) (by omega) ?_
  obtain ⟨r6, h6, h⟩ := hb_bind h
  obtain ⟨h6, nf6, hb6⟩ := hb_on_at h6
  refine hs_callVi (μ' := mX9_accumulationPoint) (mc := 0) (ms := 0) (rc := (3 * n)) (rs := (18 * n)) (As := [.int (G.2.2.2.2.2 (x4 + (1 : Int32)).toNatClampNeg), .int (G.2.2.2.2.2 (x4 + (2 : Int32)).toNatClampNeg)]) (rest := []) (ci := 9) dL_law_2257 lmL_253 okX9_accumulationPoint rfl (by decide) rfl (Nat.le_of_ble_eq_true rfl) rfl hb6 (c_X9_accumulationPoint h6) ?_
  refine hs_istore (lv' := [(6, .int r6.1), (5, .int r3.1), (0, .retAddr 0), (1, .ref x1), (2, .ref x2), (3, .ref x3), (4, .int x4)]) dL_law_2260 (by decide) rfl ?_
  refine hs_aload_n dL_law_2262 4 rfl ?_
  refine hs_weak (rc' := 0 + 3 * n) (rs' := 0 + 18 * n) (by omega) (by omega) ?_
  obtain ⟨r7, h7, h⟩ := hb_bind h
  obtain ⟨h7, nf7, hb7⟩ := hb_on_at h7
  refine hs_callVi (μ' := mX9_thrown) (mc := 0) (ms := 0) (rc := (3 * n)) (rs := (18 * n)) (As := []) (rest := []) (ci := 9) dL_law_2263 lmL_140 okX9_thrown rfl (by decide) rfl (Nat.le_of_ble_eq_true rfl) rfl hb7 (c_X9_thrown h7) ?_
  refine hs_iload dL_law_2266 1 rfl ?_
  refine hs_icmp_eq (tgt := 2273) dL_law_2268 (by decide) (fun hc8 => ?_) (fun hc8 => ?_)
  · rw [if_pos hc8] at h
    refine hs_iload dL_law_2273 1 rfl ?_
    refine hs_if_ne (tgt := 2290) dL_law_2275 (by decide) (fun hc9 => ?_) (fun hc9 => ?_)
    · rw [if_neg hc9] at h
      refine hs_sub (lv' := [(0, .retAddr 0), (1, .ref x1), (2, .ref x2), (3, .ref x3), (4, .int x4)]) [2, 3, 4, 5, 6] rfl ?_
      refine hs_weak (rc' := (3 * n)) (rs' := (18 * n)) (by omega) (by omega) ?_
      exact c_L_law_b2290 hl k23 hk23 h
    · rw [if_pos hc9] at h
      refine hs_aload_n dL_law_2278 5 rfl ?_
      refine hs_iconst (v := (0 : Int32)) dL_law_2279 (by decide) ?_
      obtain ⟨r10, h10, h⟩ := hb_bind h
      refine hs_lald dL_law_2280 h10 ?_
      refine hs_iload dL_law_2281 0 rfl ?_
      refine hs_i2l dL_law_2283 ?_
      refine hs_lcmp dL_law_2284 ?_
      refine hs_if_eq (tgt := 2290) dL_law_2285 (by decide) (fun hc11 => ?_) (fun hc11 => ?_)
      · rw [if_pos hc11] at h
        refine hs_sub (lv' := [(0, .retAddr 0), (1, .ref x1), (2, .ref x2), (3, .ref x3), (4, .int x4)]) [2, 3, 4, 5, 6] rfl ?_
        refine hs_weak (rc' := (3 * n)) (rs' := (18 * n)) (by omega) (by omega) ?_
        exact c_L_law_b2290 hl k23 hk23 h
      · rw [if_neg hc11] at h
        refine hs_iconst (v := (0 : Int32)) dL_law_2288 (by decide) ?_
        obtain rfl := Option.some.inj h
        exact hs_ireturn dL_law_2289 rfl (by decide) (fun h => by cases h)
  · rw [if_neg hc8] at h
    refine hs_iconst (v := (0 : Int32)) dL_law_2271 (by decide) ?_
    obtain rfl := Option.some.inj h
    exact hs_ireturn dL_law_2272 rfl (by decide) (fun h => by cases h)
set_option maxHeartbeats 4000000 in
set_option maxRecDepth 20000 in
theorem c_L_law_b2222 {G : hb_G} {l : Launch} (hl : l.stackTraces = false) {n : Nat}  (k23 : Nat → Nat → Nat → Int32 → hb_M → Option (Int32 × hb_M)) (hk23 : ∀ (x1 : Nat) (x2 : Nat) (x3 : Nat) (x4 : Int32) (σ : hb_M) (r : (Int32 × hb_M)), k23 x1 x2 x3 x4 σ = some r → hb_T G l true mL_law 83 (3 * n) (18 * n) 23 [(0, .retAddr 0), (1, .ref x1), (2, .ref x2), (3, .ref x3), (4, .int x4)] [] σ (.inl (some (.int r.1)), r.2))  {x1 : Nat} {x2 : Nat} {x3 : Nat} {x4 : Int32} {σ : hb_M} {r : (Int32 × hb_M)} (h : f_L_law_b2222 G.2.2.2.2.1 G.2.2.2.2.2 k23 x1 x2 x3 x4 σ = some r) : hb_T G l true mL_law 83 (3 * n) (18 * n) 2222 [(0, .retAddr 0), (1, .ref x1), (2, .ref x2), (3, .ref x3), (4, .int x4)] [] σ (.inl (some (.int r.1)), r.2) := by
  unfold f_L_law_b2222 at h
  refine hs_goto (tgt := 2704) dL_law_2222 (by decide) ?_
  refine hs_sub (lv' := [(0, .retAddr 0), (1, .ref x1), (2, .ref x2), (3, .ref x3), (4, .int x4)]) [0, 1, 2, 3, 4] rfl ?_
  refine hs_weak (rc' := (3 * n)) (rs' := (18 * n)) (by omega) (by omega) ?_
  exact c_L_law_b2704 hl k23 hk23 h
set_option maxHeartbeats 4000000 in
set_option maxRecDepth 20000 in
theorem c_L_law_b2157 {G : hb_G} {l : Launch} (hl : l.stackTraces = false) {n : Nat}  (k23 : Nat → Nat → Nat → Int32 → hb_M → Option (Int32 × hb_M)) (hk23 : ∀ (x1 : Nat) (x2 : Nat) (x3 : Nat) (x4 : Int32) (σ : hb_M) (r : (Int32 × hb_M)), k23 x1 x2 x3 x4 σ = some r → hb_T G l true mL_law 83 (3 * n) (18 * n) 23 [(0, .retAddr 0), (1, .ref x1), (2, .ref x2), (3, .ref x3), (4, .int x4)] [] σ (.inl (some (.int r.1)), r.2))  {x1 : Nat} {x2 : Nat} {x3 : Nat} {x4 : Int32} {σ : hb_M} {r : (Int32 × hb_M)} (h : f_L_law_b2157 G.2.2.2.2.1 G.2.2.2.2.2 k23 x1 x2 x3 x4 σ = some r) : hb_T G l true mL_law 83 (3 * n + 3) (18 * n + 18) 2157 [(0, .retAddr 0), (1, .ref x1), (2, .ref x2), (3, .ref x3), (4, .int x4)] [] σ (.inl (some (.int r.1)), r.2) := by
  unfold f_L_law_b2157 at h
  refine hs_aload_n dL_law_2157 1 rfl ?_
  refine hs_sload_n dL_law_2158 0 rfl ?_
  refine hs_iload dL_law_2159 4 rfl ?_
  refine hs_iconst (v := (1 : Int32)) dL_law_2161 (by decide) ?_
  refine hs_iadd dL_law_2162 ?_
  by_cases hc1 : (x4 + (1 : Int32)) < 0 ∨ G.2.2.2.2.1 ≤ (x4 + (1 : Int32)).toNatClampNeg
  · rw [if_pos hc1] at h
    cases h
  rw [if_neg hc1] at h
  refine hs_sld hc1 dL_law_2163 ?_
  refine hs_sload_n dL_law_2164 0 rfl ?_
  refine hs_iload dL_law_2165 4 rfl ?_
  refine hs_iconst (v := (2 : Int32)) dL_law_2167 (by decide) ?_
  refine hs_iadd dL_law_2168 ?_
  by_cases hc2 : (x4 + (2 : Int32)) < 0 ∨ G.2.2.2.2.1 ≤ (x4 + (2 : Int32)).toNatClampNeg
  · rw [if_pos hc2] at h
    cases h
  rw [if_neg hc2] at h
  refine hs_sld hc2 dL_law_2169 ?_
  refine hs_aload_n dL_law_2170 3 rfl ?_
  refine hs_weak (rc' := 1 + 3 * n) (rs' := 6 + 18 * n) (by omega) (by omega) ?_
  obtain ⟨r3, h3, h⟩ := hb_bind h
  refine hs_callSXi (μ' := mL_suspectAt) (mc := 1) (ms := 6) (rc := (3 * n)) (rs := (18 * n)) (As := [.ref x1, .int (G.2.2.2.2.2 (x4 + (1 : Int32)).toNatClampNeg), .int (G.2.2.2.2.2 (x4 + (2 : Int32)).toNatClampNeg), .ref x3]) (rest := []) dL_law_2171 lmL_248 okL_suspectAt rfl (by decide) rfl (Nat.le_of_ble_eq_true rfl) (c_L_suspectAt hl h3) ?_
  refine hs_istore (lv' := [(5, .int r3.1), (0, .retAddr 0), (1, .ref x1), (2, .ref x2), (3, .ref x3), (4, .int x4)]) dL_law_2174 (by decide) rfl ?_
  refine hs_aload_n dL_law_2176 3 rfl ?_
  refine hs_sload_n dL_law_2177 1 rfl ?_
  refine hs_iload dL_law_2178 5 rfl ?_
  refine hs_iconst (v := (1 : Int32)) dL_law_2180 (by decide) ?_
  refine hs_iadd dL_law_2181 ?_
  by_cases hc4 : (x4 + (1 : Int32)) < 0 ∨ G.2.2.2.2.1 ≤ (x4 + (1 : Int32)).toNatClampNeg
  · rw [if_pos hc4] at h
    cases h
  rw [if_neg hc4] at h
  refine hs_sld hc4 dL_law_2182 ?_
  refine hs_sload_n dL_law_2183 1 rfl ?_
  refine hs_iload dL_law_2184 5 rfl ?_
  refine hs_iconst (v := (2 : Int32)) dL_law_2186 (by decide) ?_
  refine hs_iadd dL_law_2187 ?_
  by_cases hc5 : (x4 + (2 : Int32)) < 0 ∨ G.2.2.2.2.1 ≤ (x4 + (2 : Int32)).toNatClampNeg
  · rw [if_pos hc5] at h
    cases h
  rw [if_neg hc5] at h
  refine hs_sld hc5 dL_law_2188 ?_
  refine hs_weak (rc' := 0 + 3 * n) (rs' := 0 + 18 * n) (by omega) (by omega) ?_
  obtain ⟨r6, h6, h⟩ := hb_bind h
  obtain ⟨h6, nf6, hb6⟩ := hb_on_at h6
  refine hs_callVi (μ' := mX9_suspectAt) (mc := 0) (ms := 0) (rc := (3 * n)) (rs := (18 * n)) (As := [.int (G.2.2.2.2.2 (x4 + (1 : Int32)).toNatClampNeg), .int (G.2.2.2.2.2 (x4 + (2 : Int32)).toNatClampNeg)]) (rest := []) (ci := 9) dL_law_2189 lmL_250 okX9_suspectAt rfl (by decide) rfl (Nat.le_of_ble_eq_true rfl) rfl hb6 (c_X9_suspectAt h6) ?_
  refine hs_istore (lv' := [(6, .int r6.1), (5, .int r3.1), (0, .retAddr 0), (1, .ref x1), (2, .ref x2), (3, .ref x3), (4, .int x4)]) dL_law_2192 (by decide) rfl ?_
  refine hs_aload_n dL_law_2194 4 rfl ?_
  refine hs_weak (rc' := 0 + 3 * n) (rs' := 0 + 18 * n) (by omega) (by omega) ?_
  obtain ⟨r7, h7, h⟩ := hb_bind h
  obtain ⟨h7, nf7, hb7⟩ := hb_on_at h7
  refine hs_callVi (μ' := mX9_thrown) (mc := 0) (ms := 0) (rc := (3 * n)) (rs := (18 * n)) (As := []) (rest := []) (ci := 9) dL_law_2195 lmL_140 okX9_thrown rfl (by decide) rfl (Nat.le_of_ble_eq_true rfl) rfl hb7 (c_X9_thrown h7) ?_
  refine hs_iload dL_law_2198 1 rfl ?_
  refine hs_icmp_eq (tgt := 2205) dL_law_2200 (by decide) (fun hc8 => ?_) (fun hc8 => ?_)
  · rw [if_pos hc8] at h
    refine hs_iload dL_law_2205 1 rfl ?_
    refine hs_if_ne (tgt := 2222) dL_law_2207 (by decide) (fun hc9 => ?_) (fun hc9 => ?_)
    · rw [if_neg hc9] at h
      refine hs_sub (lv' := [(0, .retAddr 0), (1, .ref x1), (2, .ref x2), (3, .ref x3), (4, .int x4)]) [2, 3, 4, 5, 6] rfl ?_
      refine hs_weak (rc' := (3 * n)) (rs' := (18 * n)) (by omega) (by omega) ?_
      exact c_L_law_b2222 hl k23 hk23 h
    · rw [if_pos hc9] at h
      refine hs_aload_n dL_law_2210 5 rfl ?_
      refine hs_iconst (v := (0 : Int32)) dL_law_2211 (by decide) ?_
      obtain ⟨r10, h10, h⟩ := hb_bind h
      refine hs_lald dL_law_2212 h10 ?_
      refine hs_iload dL_law_2213 0 rfl ?_
      refine hs_i2l dL_law_2215 ?_
      refine hs_lcmp dL_law_2216 ?_
      refine hs_if_eq (tgt := 2222) dL_law_2217 (by decide) (fun hc11 => ?_) (fun hc11 => ?_)
      · rw [if_pos hc11] at h
        refine hs_sub (lv' := [(0, .retAddr 0), (1, .ref x1), (2, .ref x2), (3, .ref x3), (4, .int x4)]) [2, 3, 4, 5, 6] rfl ?_
        refine hs_weak (rc' := (3 * n)) (rs' := (18 * n)) (by omega) (by omega) ?_
        exact c_L_law_b2222 hl k23 hk23 h
      · rw [if_neg hc11] at h
        refine hs_iconst (v := (0 : Int32)) dL_law_2220 (by decide) ?_
        obtain rfl := Option.some.inj h
        exact hs_ireturn dL_law_2221 rfl (by decide) (fun h => by cases h)
  · rw [if_neg hc8] at h
    refine hs_iconst (v := (0 : Int32)) dL_law_2203 (by decide) ?_
    obtain rfl := Option.some.inj h
    exact hs_ireturn dL_law_2204 rfl (by decide) (fun h => by cases h)
set_option maxHeartbeats 4000000 in
set_option maxRecDepth 20000 in
theorem c_L_law_b2154 {G : hb_G} {l : Launch} (hl : l.stackTraces = false) {n : Nat}  (k23 : Nat → Nat → Nat → Int32 → hb_M → Option (Int32 × hb_M)) (hk23 : ∀ (x1 : Nat) (x2 : Nat) (x3 : Nat) (x4 : Int32) (σ : hb_M) (r : (Int32 × hb_M)), k23 x1 x2 x3 x4 σ = some r → hb_T G l true mL_law 83 (3 * n) (18 * n) 23 [(0, .retAddr 0), (1, .ref x1), (2, .ref x2), (3, .ref x3), (4, .int x4)] [] σ (.inl (some (.int r.1)), r.2))  {x1 : Nat} {x2 : Nat} {x3 : Nat} {x4 : Int32} {σ : hb_M} {r : (Int32 × hb_M)} (h : f_L_law_b2154 G.2.2.2.2.1 G.2.2.2.2.2 k23 x1 x2 x3 x4 σ = some r) : hb_T G l true mL_law 83 (3 * n) (18 * n) 2154 [(0, .retAddr 0), (1, .ref x1), (2, .ref x2), (3, .ref x3), (4, .int x4)] [] σ (.inl (some (.int r.1)), r.2) := by
  unfold f_L_law_b2154 at h
  refine hs_goto (tgt := 2704) dL_law_2154 (by decide) ?_
  refine hs_sub (lv' := [(0, .retAddr 0), (1, .ref x1), (2, .ref x2), (3, .ref x3), (4, .int x4)]) [0, 1, 2, 3, 4] rfl ?_
  refine hs_weak (rc' := (3 * n)) (rs' := (18 * n)) (by omega) (by omega) ?_
  exact c_L_law_b2704 hl k23 hk23 h
set_option maxHeartbeats 4000000 in
set_option maxRecDepth 20000 in
theorem c_L_law_b2101 {G : hb_G} {l : Launch} (hl : l.stackTraces = false) {n : Nat}  (k23 : Nat → Nat → Nat → Int32 → hb_M → Option (Int32 × hb_M)) (hk23 : ∀ (x1 : Nat) (x2 : Nat) (x3 : Nat) (x4 : Int32) (σ : hb_M) (r : (Int32 × hb_M)), k23 x1 x2 x3 x4 σ = some r → hb_T G l true mL_law 83 (3 * n) (18 * n) 23 [(0, .retAddr 0), (1, .ref x1), (2, .ref x2), (3, .ref x3), (4, .int x4)] [] σ (.inl (some (.int r.1)), r.2))  {x1 : Nat} {x2 : Nat} {x3 : Nat} {x4 : Int32} {σ : hb_M} {r : (Int32 × hb_M)} (h : f_L_law_b2101 G.2.2.2.2.1 G.2.2.2.2.2 k23 x1 x2 x3 x4 σ = some r) : hb_T G l true mL_law 83 (3 * n + 3) (18 * n + 18) 2101 [(0, .retAddr 0), (1, .ref x1), (2, .ref x2), (3, .ref x3), (4, .int x4)] [] σ (.inl (some (.int r.1)), r.2) := by
  unfold f_L_law_b2101 at h
  refine hs_aload_n dL_law_2101 1 rfl ?_
  refine hs_sload_n dL_law_2102 0 rfl ?_
  refine hs_iload dL_law_2103 4 rfl ?_
  refine hs_iconst (v := (1 : Int32)) dL_law_2105 (by decide) ?_
  refine hs_iadd dL_law_2106 ?_
  by_cases hc1 : (x4 + (1 : Int32)) < 0 ∨ G.2.2.2.2.1 ≤ (x4 + (1 : Int32)).toNatClampNeg
  · rw [if_pos hc1] at h
    cases h
  rw [if_neg hc1] at h
  refine hs_sld hc1 dL_law_2107 ?_
  refine hs_aload_n dL_law_2108 3 rfl ?_
  refine hs_weak (rc' := 1 + 3 * n) (rs' := 6 + 18 * n) (by omega) (by omega) ?_
  obtain ⟨r2, h2, h⟩ := hb_bind h
  refine hs_callSXi (μ' := mL_shareBits) (mc := 1) (ms := 6) (rc := (3 * n)) (rs := (18 * n)) (As := [.ref x1, .int (G.2.2.2.2.2 (x4 + (1 : Int32)).toNatClampNeg), .ref x3]) (rest := []) dL_law_2109 lmL_245 okL_shareBits rfl (by decide) rfl (Nat.le_of_ble_eq_true rfl) (c_L_shareBits hl h2) ?_
  refine hs_istore (lv' := [(5, .int r2.1), (0, .retAddr 0), (1, .ref x1), (2, .ref x2), (3, .ref x3), (4, .int x4)]) dL_law_2112 (by decide) rfl ?_
  refine hs_aload_n dL_law_2114 3 rfl ?_
  refine hs_sload_n dL_law_2115 1 rfl ?_
  refine hs_iload dL_law_2116 5 rfl ?_
  refine hs_iconst (v := (1 : Int32)) dL_law_2118 (by decide) ?_
  refine hs_iadd dL_law_2119 ?_
  by_cases hc3 : (x4 + (1 : Int32)) < 0 ∨ G.2.2.2.2.1 ≤ (x4 + (1 : Int32)).toNatClampNeg
  · rw [if_pos hc3] at h
    cases h
  rw [if_neg hc3] at h
  refine hs_sld hc3 dL_law_2120 ?_
  refine hs_weak (rc' := 0 + 3 * n) (rs' := 0 + 18 * n) (by omega) (by omega) ?_
  obtain ⟨r4, h4, h⟩ := hb_bind h
  obtain ⟨h4, nf4, hb4⟩ := hb_on_at h4
  refine hs_callVi (μ' := mX9_shareBits) (mc := 0) (ms := 0) (rc := (3 * n)) (rs := (18 * n)) (As := [.int (G.2.2.2.2.2 (x4 + (1 : Int32)).toNatClampNeg)]) (rest := []) (ci := 9) dL_law_2121 lmL_247 okX9_shareBits rfl (by decide) rfl (Nat.le_of_ble_eq_true rfl) rfl hb4 (c_X9_shareBits h4) ?_
  refine hs_istore (lv' := [(6, .int r4.1), (5, .int r2.1), (0, .retAddr 0), (1, .ref x1), (2, .ref x2), (3, .ref x3), (4, .int x4)]) dL_law_2124 (by decide) rfl ?_
  refine hs_aload_n dL_law_2126 4 rfl ?_
  refine hs_weak (rc' := 0 + 3 * n) (rs' := 0 + 18 * n) (by omega) (by omega) ?_
  obtain ⟨r5, h5, h⟩ := hb_bind h
  obtain ⟨h5, nf5, hb5⟩ := hb_on_at h5
  refine hs_callVi (μ' := mX9_thrown) (mc := 0) (ms := 0) (rc := (3 * n)) (rs := (18 * n)) (As := []) (rest := []) (ci := 9) dL_law_2127 lmL_140 okX9_thrown rfl (by decide) rfl (Nat.le_of_ble_eq_true rfl) rfl hb5 (c_X9_thrown h5) ?_
  refine hs_iload dL_law_2130 1 rfl ?_
  refine hs_icmp_eq (tgt := 2137) dL_law_2132 (by decide) (fun hc6 => ?_) (fun hc6 => ?_)
  · rw [if_pos hc6] at h
    refine hs_iload dL_law_2137 1 rfl ?_
    refine hs_if_ne (tgt := 2154) dL_law_2139 (by decide) (fun hc7 => ?_) (fun hc7 => ?_)
    · rw [if_neg hc7] at h
      refine hs_sub (lv' := [(0, .retAddr 0), (1, .ref x1), (2, .ref x2), (3, .ref x3), (4, .int x4)]) [2, 3, 4, 5, 6] rfl ?_
      refine hs_weak (rc' := (3 * n)) (rs' := (18 * n)) (by omega) (by omega) ?_
      exact c_L_law_b2154 hl k23 hk23 h
    · rw [if_pos hc7] at h
      refine hs_aload_n dL_law_2142 5 rfl ?_
      refine hs_iconst (v := (0 : Int32)) dL_law_2143 (by decide) ?_
      obtain ⟨r8, h8, h⟩ := hb_bind h
      refine hs_lald dL_law_2144 h8 ?_
      refine hs_iload dL_law_2145 0 rfl ?_
      refine hs_i2l dL_law_2147 ?_
      refine hs_lcmp dL_law_2148 ?_
      refine hs_if_eq (tgt := 2154) dL_law_2149 (by decide) (fun hc9 => ?_) (fun hc9 => ?_)
      · rw [if_pos hc9] at h
        refine hs_sub (lv' := [(0, .retAddr 0), (1, .ref x1), (2, .ref x2), (3, .ref x3), (4, .int x4)]) [2, 3, 4, 5, 6] rfl ?_
        refine hs_weak (rc' := (3 * n)) (rs' := (18 * n)) (by omega) (by omega) ?_
        exact c_L_law_b2154 hl k23 hk23 h
      · rw [if_neg hc9] at h
        refine hs_iconst (v := (0 : Int32)) dL_law_2152 (by decide) ?_
        obtain rfl := Option.some.inj h
        exact hs_ireturn dL_law_2153 rfl (by decide) (fun h => by cases h)
  · rw [if_neg hc6] at h
    refine hs_iconst (v := (0 : Int32)) dL_law_2135 (by decide) ?_
    obtain rfl := Option.some.inj h
    exact hs_ireturn dL_law_2136 rfl (by decide) (fun h => by cases h)
set_option maxHeartbeats 4000000 in
set_option maxRecDepth 20000 in
theorem c_L_law_b2098 {G : hb_G} {l : Launch} (hl : l.stackTraces = false) {n : Nat}  (k23 : Nat → Nat → Nat → Int32 → hb_M → Option (Int32 × hb_M)) (hk23 : ∀ (x1 : Nat) (x2 : Nat) (x3 : Nat) (x4 : Int32) (σ : hb_M) (r : (Int32 × hb_M)), k23 x1 x2 x3 x4 σ = some r → hb_T G l true mL_law 83 (3 * n) (18 * n) 23 [(0, .retAddr 0), (1, .ref x1), (2, .ref x2), (3, .ref x3), (4, .int x4)] [] σ (.inl (some (.int r.1)), r.2))  {x1 : Nat} {x2 : Nat} {x3 : Nat} {x4 : Int32} {σ : hb_M} {r : (Int32 × hb_M)} (h : f_L_law_b2098 G.2.2.2.2.1 G.2.2.2.2.2 k23 x1 x2 x3 x4 σ = some r) : hb_T G l true mL_law 83 (3 * n) (18 * n) 2098 [(0, .retAddr 0), (1, .ref x1), (2, .ref x2), (3, .ref x3), (4, .int x4)] [] σ (.inl (some (.int r.1)), r.2) := by
  unfold f_L_law_b2098 at h
  refine hs_goto (tgt := 2704) dL_law_2098 (by decide) ?_
  refine hs_sub (lv' := [(0, .retAddr 0), (1, .ref x1), (2, .ref x2), (3, .ref x3), (4, .int x4)]) [0, 1, 2, 3, 4] rfl ?_
  refine hs_weak (rc' := (3 * n)) (rs' := (18 * n)) (by omega) (by omega) ?_
  exact c_L_law_b2704 hl k23 hk23 h
set_option maxHeartbeats 4000000 in
set_option maxRecDepth 20000 in
theorem c_L_law_b2046 {G : hb_G} {l : Launch} (hl : l.stackTraces = false) {n : Nat}  (k23 : Nat → Nat → Nat → Int32 → hb_M → Option (Int32 × hb_M)) (hk23 : ∀ (x1 : Nat) (x2 : Nat) (x3 : Nat) (x4 : Int32) (σ : hb_M) (r : (Int32 × hb_M)), k23 x1 x2 x3 x4 σ = some r → hb_T G l true mL_law 83 (3 * n) (18 * n) 23 [(0, .retAddr 0), (1, .ref x1), (2, .ref x2), (3, .ref x3), (4, .int x4)] [] σ (.inl (some (.int r.1)), r.2))  {x1 : Nat} {x2 : Nat} {x3 : Nat} {x4 : Int32} {σ : hb_M} {r : (Int32 × hb_M)} (h : f_L_law_b2046 G.2.2.2.2.1 G.2.2.2.2.2 k23 x1 x2 x3 x4 σ = some r) : hb_T G l true mL_law 83 (3 * n + 3) (18 * n + 18) 2046 [(0, .retAddr 0), (1, .ref x1), (2, .ref x2), (3, .ref x3), (4, .int x4)] [] σ (.inl (some (.int r.1)), r.2) := by
  unfold f_L_law_b2046 at h
  refine hs_aload_n dL_law_2046 1 rfl ?_
  refine hs_sload_n dL_law_2047 0 rfl ?_
  refine hs_iload dL_law_2048 4 rfl ?_
  refine hs_iconst (v := (1 : Int32)) dL_law_2050 (by decide) ?_
  refine hs_iadd dL_law_2051 ?_
  by_cases hc1 : (x4 + (1 : Int32)) < 0 ∨ G.2.2.2.2.1 ≤ (x4 + (1 : Int32)).toNatClampNeg
  · rw [if_pos hc1] at h
    cases h
  rw [if_neg hc1] at h
  refine hs_sld hc1 dL_law_2052 ?_
  refine hs_aload_n dL_law_2053 3 rfl ?_
  refine hs_weak (rc' := 1 + 3 * n) (rs' := 6 + 18 * n) (by omega) (by omega) ?_
  obtain ⟨r2, h2, h⟩ := hb_bind h
  refine hs_callSXi (μ' := mL_meanRetainedBits) (mc := 1) (ms := 6) (rc := (3 * n)) (rs := (18 * n)) (As := [.ref x1, .int (G.2.2.2.2.2 (x4 + (1 : Int32)).toNatClampNeg), .ref x3]) (rest := []) dL_law_2054 lmL_242 okL_meanRetainedBits rfl (by decide) rfl (Nat.le_of_ble_eq_true rfl) (c_L_meanRetainedBits hl h2) ?_
  refine hs_istore (lv' := [(5, .int r2.1), (0, .retAddr 0), (1, .ref x1), (2, .ref x2), (3, .ref x3), (4, .int x4)]) dL_law_2057 (by decide) rfl ?_
  refine hs_aload_n dL_law_2059 3 rfl ?_
  refine hs_sload_n dL_law_2060 1 rfl ?_
  refine hs_iload dL_law_2061 5 rfl ?_
  refine hs_iconst (v := (1 : Int32)) dL_law_2063 (by decide) ?_
  refine hs_iadd dL_law_2064 ?_
  by_cases hc3 : (x4 + (1 : Int32)) < 0 ∨ G.2.2.2.2.1 ≤ (x4 + (1 : Int32)).toNatClampNeg
  · rw [if_pos hc3] at h
    cases h
  rw [if_neg hc3] at h
  refine hs_sld hc3 dL_law_2065 ?_
  refine hs_weak (rc' := 0 + 3 * n) (rs' := 0 + 18 * n) (by omega) (by omega) ?_
  obtain ⟨r4, h4, h⟩ := hb_bind h
  obtain ⟨h4, nf4, hb4⟩ := hb_on_at h4
  refine hs_callVl (μ' := mX9_meanRetainedBits) (mc := 0) (ms := 0) (rc := (3 * n)) (rs := (18 * n)) (As := [.int (G.2.2.2.2.2 (x4 + (1 : Int32)).toNatClampNeg)]) (rest := []) (ci := 9) dL_law_2066 lmL_244 okX9_meanRetainedBits rfl (by decide) rfl (Nat.le_of_ble_eq_true rfl) rfl hb4 (c_X9_meanRetainedBits h4) ?_
  refine hs_lstore (lv' := [(6, .long r4.1), (5, .int r2.1), (0, .retAddr 0), (1, .ref x1), (2, .ref x2), (3, .ref x3), (4, .int x4)]) dL_law_2069 (by decide) rfl ?_
  refine hs_aload_n dL_law_2071 4 rfl ?_
  refine hs_weak (rc' := 0 + 3 * n) (rs' := 0 + 18 * n) (by omega) (by omega) ?_
  obtain ⟨r5, h5, h⟩ := hb_bind h
  obtain ⟨h5, nf5, hb5⟩ := hb_on_at h5
  refine hs_callVi (μ' := mX9_thrown) (mc := 0) (ms := 0) (rc := (3 * n)) (rs := (18 * n)) (As := []) (rest := []) (ci := 9) dL_law_2072 lmL_140 okX9_thrown rfl (by decide) rfl (Nat.le_of_ble_eq_true rfl) rfl hb5 (c_X9_thrown h5) ?_
  refine hs_iload dL_law_2075 1 rfl ?_
  refine hs_icmp_eq (tgt := 2082) dL_law_2077 (by decide) (fun hc6 => ?_) (fun hc6 => ?_)
  · rw [if_pos hc6] at h
    refine hs_iload dL_law_2082 1 rfl ?_
    refine hs_if_ne (tgt := 2098) dL_law_2084 (by decide) (fun hc7 => ?_) (fun hc7 => ?_)
    · rw [if_neg hc7] at h
      refine hs_sub (lv' := [(0, .retAddr 0), (1, .ref x1), (2, .ref x2), (3, .ref x3), (4, .int x4)]) [2, 3, 4, 5, 6] rfl ?_
      refine hs_weak (rc' := (3 * n)) (rs' := (18 * n)) (by omega) (by omega) ?_
      exact c_L_law_b2098 hl k23 hk23 h
    · rw [if_pos hc7] at h
      refine hs_aload_n dL_law_2087 5 rfl ?_
      refine hs_iconst (v := (0 : Int32)) dL_law_2088 (by decide) ?_
      obtain ⟨r8, h8, h⟩ := hb_bind h
      refine hs_lald dL_law_2089 h8 ?_
      refine hs_lload dL_law_2090 0 rfl ?_
      refine hs_lcmp dL_law_2092 ?_
      refine hs_if_eq (tgt := 2098) dL_law_2093 (by decide) (fun hc9 => ?_) (fun hc9 => ?_)
      · rw [if_pos hc9] at h
        refine hs_sub (lv' := [(0, .retAddr 0), (1, .ref x1), (2, .ref x2), (3, .ref x3), (4, .int x4)]) [2, 3, 4, 5, 6] rfl ?_
        refine hs_weak (rc' := (3 * n)) (rs' := (18 * n)) (by omega) (by omega) ?_
        exact c_L_law_b2098 hl k23 hk23 h
      · rw [if_neg hc9] at h
        refine hs_iconst (v := (0 : Int32)) dL_law_2096 (by decide) ?_
        obtain rfl := Option.some.inj h
        exact hs_ireturn dL_law_2097 rfl (by decide) (fun h => by cases h)
  · rw [if_neg hc6] at h
    refine hs_iconst (v := (0 : Int32)) dL_law_2080 (by decide) ?_
    obtain rfl := Option.some.inj h
    exact hs_ireturn dL_law_2081 rfl (by decide) (fun h => by cases h)
set_option maxHeartbeats 4000000 in
set_option maxRecDepth 20000 in
theorem c_L_law_b2043 {G : hb_G} {l : Launch} (hl : l.stackTraces = false) {n : Nat}  (k23 : Nat → Nat → Nat → Int32 → hb_M → Option (Int32 × hb_M)) (hk23 : ∀ (x1 : Nat) (x2 : Nat) (x3 : Nat) (x4 : Int32) (σ : hb_M) (r : (Int32 × hb_M)), k23 x1 x2 x3 x4 σ = some r → hb_T G l true mL_law 83 (3 * n) (18 * n) 23 [(0, .retAddr 0), (1, .ref x1), (2, .ref x2), (3, .ref x3), (4, .int x4)] [] σ (.inl (some (.int r.1)), r.2))  {x1 : Nat} {x2 : Nat} {x3 : Nat} {x4 : Int32} {σ : hb_M} {r : (Int32 × hb_M)} (h : f_L_law_b2043 G.2.2.2.2.1 G.2.2.2.2.2 k23 x1 x2 x3 x4 σ = some r) : hb_T G l true mL_law 83 (3 * n) (18 * n) 2043 [(0, .retAddr 0), (1, .ref x1), (2, .ref x2), (3, .ref x3), (4, .int x4)] [] σ (.inl (some (.int r.1)), r.2) := by
  unfold f_L_law_b2043 at h
  refine hs_goto (tgt := 2704) dL_law_2043 (by decide) ?_
  refine hs_sub (lv' := [(0, .retAddr 0), (1, .ref x1), (2, .ref x2), (3, .ref x3), (4, .int x4)]) [0, 1, 2, 3, 4] rfl ?_
  refine hs_weak (rc' := (3 * n)) (rs' := (18 * n)) (by omega) (by omega) ?_
  exact c_L_law_b2704 hl k23 hk23 h
set_option maxHeartbeats 4000000 in
set_option maxRecDepth 20000 in
theorem c_L_law_b2010 {G : hb_G} {l : Launch} (hl : l.stackTraces = false) {n : Nat}  (k23 : Nat → Nat → Nat → Int32 → hb_M → Option (Int32 × hb_M)) (hk23 : ∀ (x1 : Nat) (x2 : Nat) (x3 : Nat) (x4 : Int32) (σ : hb_M) (r : (Int32 × hb_M)), k23 x1 x2 x3 x4 σ = some r → hb_T G l true mL_law 83 (3 * n) (18 * n) 23 [(0, .retAddr 0), (1, .ref x1), (2, .ref x2), (3, .ref x3), (4, .int x4)] [] σ (.inl (some (.int r.1)), r.2))  {x1 : Nat} {x2 : Nat} {x3 : Nat} {x4 : Int32} {x5 : Int32} {s0 : Nat} {s1 : Int32} {s2 : Int32} {s3 : Int32} {σ : hb_M} {r : (Int32 × hb_M)} (h : f_L_law_b2010 G.2.2.2.2.1 G.2.2.2.2.2 k23 x1 x2 x3 x4 x5 s0 s1 s2 s3 σ = some r) : hb_T G l true mL_law 83 (3 * n) (18 * n) 2010 [(0, .retAddr 0), (1, .ref x1), (2, .ref x2), (3, .ref x3), (4, .int x4), (5, .int x5)] [.int s3, .int s2, .int s1, .ref s0] σ (.inl (some (.int r.1)), r.2) := by
  unfold f_L_law_b2010 at h
  refine hs_weak (rc' := 0 + 3 * n) (rs' := 0 + 18 * n) (by omega) (by omega) ?_
  obtain ⟨r1, h1, h⟩ := hb_bind h
  obtain ⟨h1, nf1, hb1⟩ := hb_on_at h1
  refine hs_callVi (μ' := mX9_group) (mc := 0) (ms := 0) (rc := (3 * n)) (rs := (18 * n)) (As := [.int s1, .int s2, .int s3]) (rest := []) (ci := 9) dL_law_2010 lmL_241 okX9_group rfl (by decide) rfl (Nat.le_of_ble_eq_true rfl) rfl hb1 (c_X9_group h1) ?_
  refine hs_istore (lv' := [(6, .int r1.1), (0, .retAddr 0), (1, .ref x1), (2, .ref x2), (3, .ref x3), (4, .int x4), (5, .int x5)]) dL_law_2013 (by decide) rfl ?_
  refine hs_aload_n dL_law_2015 3 rfl ?_
  refine hs_weak (rc' := 0 + 3 * n) (rs' := 0 + 18 * n) (by omega) (by omega) ?_
  obtain ⟨r2, h2, h⟩ := hb_bind h
  obtain ⟨h2, nf2, hb2⟩ := hb_on_at h2
  refine hs_callVi (μ' := mX9_thrown) (mc := 0) (ms := 0) (rc := (3 * n)) (rs := (18 * n)) (As := []) (rest := []) (ci := 9) dL_law_2016 lmL_140 okX9_thrown rfl (by decide) rfl (Nat.le_of_ble_eq_true rfl) rfl hb2 (c_X9_thrown h2) ?_
  refine hs_iload dL_law_2019 6 rfl ?_
  refine hs_icmp_eq (tgt := 2026) dL_law_2021 (by decide) (fun hc3 => ?_) (fun hc3 => ?_)
  · rw [if_pos hc3] at h
    refine hs_iload dL_law_2026 6 rfl ?_
    refine hs_if_ne (tgt := 2043) dL_law_2028 (by decide) (fun hc4 => ?_) (fun hc4 => ?_)
    · rw [if_neg hc4] at h
      refine hs_sub (lv' := [(0, .retAddr 0), (1, .ref x1), (2, .ref x2), (3, .ref x3), (4, .int x4)]) [1, 2, 3, 4, 5] rfl ?_
      refine hs_weak (rc' := (3 * n)) (rs' := (18 * n)) (by omega) (by omega) ?_
      exact c_L_law_b2043 hl k23 hk23 h
    · rw [if_pos hc4] at h
      refine hs_aload_n dL_law_2031 4 rfl ?_
      refine hs_iconst (v := (0 : Int32)) dL_law_2032 (by decide) ?_
      obtain ⟨r5, h5, h⟩ := hb_bind h
      refine hs_lald dL_law_2033 h5 ?_
      refine hs_iload dL_law_2034 0 rfl ?_
      refine hs_i2l dL_law_2036 ?_
      refine hs_lcmp dL_law_2037 ?_
      refine hs_if_eq (tgt := 2043) dL_law_2038 (by decide) (fun hc6 => ?_) (fun hc6 => ?_)
      · rw [if_pos hc6] at h
        refine hs_sub (lv' := [(0, .retAddr 0), (1, .ref x1), (2, .ref x2), (3, .ref x3), (4, .int x4)]) [1, 2, 3, 4, 5] rfl ?_
        refine hs_weak (rc' := (3 * n)) (rs' := (18 * n)) (by omega) (by omega) ?_
        exact c_L_law_b2043 hl k23 hk23 h
      · rw [if_neg hc6] at h
        refine hs_iconst (v := (0 : Int32)) dL_law_2041 (by decide) ?_
        obtain rfl := Option.some.inj h
        exact hs_ireturn dL_law_2042 rfl (by decide) (fun h => by cases h)
  · rw [if_neg hc3] at h
    refine hs_iconst (v := (0 : Int32)) dL_law_2024 (by decide) ?_
    obtain rfl := Option.some.inj h
    exact hs_ireturn dL_law_2025 rfl (by decide) (fun h => by cases h)
