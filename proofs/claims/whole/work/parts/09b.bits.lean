/-! the raw bits of doubles and floats -/
section HBITS
variable {G : hb_G} {l : Launch} {z : Bool} {μ : hb_Y} {d rc rs pc : Nat} {lv : List (Nat × Value)} {st : List Value} {σ : hb_M} {res : hb_R}
theorem hs_d2l {idx : Nat} {b : UInt64} (hd : decode μ.2.1 pc = .ok (.invokestatic idx, 3)) (hk : Cond.methodLink μ.1.cls idx ⟨"java/lang/Double", "doubleToRawLongBits", "(D)J"⟩ ∈ hb_wl) (h1 : Cond.native ⟨"java/lang/Double", "doubleToRawLongBits", "(D)J"⟩ ∈ hb_wl) (h2 : Cond.static ⟨"java/lang/Double", "doubleToRawLongBits", "(D)J"⟩ ∈ hb_wl) (h3 : Cond.initialized "java/lang/Double" ∈ hb_wl) (hcat : (st.map fun v => v.category).sum ≤ 8) (h : hb_T G l z μ d rc rs (pc + 3) lv (.long b.toInt64 :: st) σ res) : hb_T G l z μ d rc rs pc lv (.double b :: st) σ res := by
  intro p e R s m args below meth c Q hC g1 g2 e1 e2 H locs cells slots ls hc hs hD hl
  have hts := hC.2.2.2.2.1
  exact vn_d2l hC.1 hC.2.1 (by rw [hC.2.2.1, hl.1]) hC.2.2.2.1 (hts _ hk) (hts _ h1) (hts _ h2) (hts _ h3) (by omega) (by rw [hb_cats]; omega) hd (h p e R s m args below meth c Q hC g1 g2 e1 e2 H locs cells slots ls hc hs hD hl)
theorem hs_f2i {idx : Nat} {b : UInt32} (hd : decode μ.2.1 pc = .ok (.invokestatic idx, 3)) (hk : Cond.methodLink μ.1.cls idx ⟨"java/lang/Float", "floatToRawIntBits", "(F)I"⟩ ∈ hb_wl) (h1 : Cond.native ⟨"java/lang/Float", "floatToRawIntBits", "(F)I"⟩ ∈ hb_wl) (h2 : Cond.static ⟨"java/lang/Float", "floatToRawIntBits", "(F)I"⟩ ∈ hb_wl) (h3 : Cond.initialized "java/lang/Float" ∈ hb_wl) (hcat : (st.map fun v => v.category).sum ≤ 8) (h : hb_T G l z μ d rc rs (pc + 3) lv (.int b.toInt32 :: st) σ res) : hb_T G l z μ d rc rs pc lv (.float b :: st) σ res := by
  intro p e R s m args below meth c Q hC g1 g2 e1 e2 H locs cells slots ls hc hs hD hl
  have hts := hC.2.2.2.2.1
  exact vn_f2i hC.1 hC.2.1 (by rw [hC.2.2.1, hl.1]) hC.2.2.2.1 (hts _ hk) (hts _ h1) (hts _ h2) (hts _ h3) (by omega) (by rw [hb_cats]; omega) hd (h p e R s m args below meth c Q hC g1 g2 e1 e2 H locs cells slots ls hc hs hD hl)
end HBITS
