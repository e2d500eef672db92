/-! the law's answer -/
section PURE
def pa_0 (a j : Nat) : Nat := if a = 40 then (if j < 2 then 1 else 0) else if a = 41 then (if j = 0 then 0 else 1) else if a < 40 then (if 5 ≤ j then 1 else 0) else 0
set_option maxRecDepth 8192 in
theorem pa_0_n {o : Nat} (ho : o < 40) : pa_0 o 0 = 0 := by
  unfold pa_0
  rw [if_neg (by omega), if_neg (by omega), if_pos ho]
  rfl
set_option maxRecDepth 8192 in
theorem pa_0_wf : pa_wf pa_0 := by
  refine ⟨by decide, ?_, ?_, ?_, ?_⟩
  · intro c hc
    have : c = 0 := by
      have : c < 1 := hc
      omega
    subst this
    decide
  · intro o ho
    rw [pa_0_n ho]
    decide
  · intro o ho h
    exact absurd (pa_0_n ho) h
  · intro o p ho _ h
    exact absurd (pa_0_n ho) h
set_option maxRecDepth 8192 in
theorem st_ph : ph_rep (dl uA) 1 pa_0 := by
  refine ⟨by decide +kernel, by decide +kernel, ?_, ?_⟩
  · intro c hc
    have : c = 0 := by
      have : c < 1 := hc
      omega
    subst this
    decide +kernel
  · intro o ho
    refine ⟨fun _ => ?_, fun h => absurd (pa_0_n ho) h⟩
    have : ∀ o, o < 40 → dl uA (1 + 4) o = -nI 1 := by decide +kernel
    exact this o ho
set_option maxRecDepth 8192 in
theorem st_cS : cS (dl uA) (fun _ _ => 0) (rl vA 30) pa_0 0 (fun _ => pa_0) 0 (fun _ => 0) (fun _ => pa_0) (fun _ => false) 1 := by
  refine ⟨st_ph, ⟨0, 0, by decide +kernel, by decide, by decide +kernel, by decide, fun h => absurd h (by decide)⟩, ⟨fun i => i, by decide, by decide +kernel, ?_, fun _ _ _ _ h => h, fun i hi => absurd hi (by omega)⟩, ⟨by decide +kernel, fun j hj => absurd hj (by omega)⟩, ?_⟩
  · intro i hi
    have : ∀ i, i < 6 → rl vA 30 i = some (31 + 11 * i) := by decide +kernel
    exact ⟨hi, this i hi⟩
  · intro p hp
    have : ∀ p, p < 2 → dl uA 129 p = bI false := by decide +kernel
    exact ⟨this p hp, fun h => by cases h⟩
set_option maxRecDepth 8192 in
theorem st_mS : mS (dl uA) pa_0 0 (fun _ => pa_0) 0 (fun _ => 0) (fun _ => pa_0) (fun _ => false) := by
  refine ⟨⟨by decide +kernel, by decide +kernel, ?_, ?_⟩, by decide +kernel, fun i hi => absurd hi (by omega), ⟨by decide +kernel, fun j hj => absurd hj (by omega)⟩, ?_⟩
  · have : ∀ c, c < 10 → dl uA 131 (1 + c) = mI (pa_0 41 c) ∧ dl uA 131 (11 + c) = nI (pa_0 42 c) ∧ dl uA 131 (21 + c) = nI (pa_0 43 c) := by decide +kernel
    exact this
  · have h1 : ∀ o, o < 40 → ∀ k, k < 5 → dl uA 131 (32 + 13 * o + k) = nI (pa_0 o k) := by decide +kernel
    have h2 : ∀ o, o < 40 → ∀ s, s < 8 → dl uA 131 (32 + 13 * o + 5 + s) = mI (pa_0 o (5 + s)) := by decide +kernel
    exact fun o ho => ⟨h1 o ho, h2 o ho⟩
  · intro p hp
    have : ∀ p, p < 2 → dl uA 136 p = bI false := by decide +kernel
    exact ⟨this p hp, fun h => by cases h⟩
set_option maxRecDepth 8192 in
theorem st_aS : aS pa_0 0 (fun _ => pa_0) 0 (fun _ => 0) (fun _ => pa_0) (fun _ => false) 1 := ⟨by decide, pa_0_wf, by decide, by decide, fun i hi => absurd hi (by omega), by decide, fun j hj => absurd hj (by omega), fun p hp h => by cases h⟩
/-! the small machine's run of the law answers 1 -/
set_option maxRecDepth 8192 in
theorem law_pure (L : Nat) (xs : Nat → Int32) (hL : L ≤ 2048) : ∃ σ9 : hb_M, f_L_law L xs hb_z0 = some (1, σ9) := by
  rw [law_st, start_pm]
  exact lw_loop hL 513 0 600 _ _ _ (by omega) (by decide) (by decide) ⟨pa_0, 0, fun _ => pa_0, 0, fun _ => 0, fun _ => pa_0, fun _ => false, st_cS, st_mS, st_aS⟩
end PURE
