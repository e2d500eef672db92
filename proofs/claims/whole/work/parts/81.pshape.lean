/-! the memory behind the constructors: its shape never changes -/
def pm_Λ : List (Nat × Nat) := [(12, 9), (8, 13), (0, 10), (0, 10), (0, 10), (0, 40), (0, 40), (0, 40), (0, 40), (0, 40), (0, 40), (0, 320), (4, 13), (10, 5), (0, 40), (0, 40), (0, 40), (10, 5), (0, 40), (0, 40), (0, 40), (0, 320), (1, 40), (0, 40), (0, 40), (0, 40), (0, 40), (1, 40), (0, 40), (9, 2), (3, 6), (8, 13), (0, 10), (0, 10), (0, 10), (0, 40), (0, 40), (0, 40), (0, 40), (0, 40), (0, 40), (0, 320), (8, 13), (0, 10), (0, 10), (0, 10), (0, 40), (0, 40), (0, 40), (0, 40), (0, 40), (0, 40), (0, 320), (8, 13), (0, 10), (0, 10), (0, 10), (0, 40), (0, 40), (0, 40), (0, 40), (0, 40), (0, 40), (0, 320), (8, 13), (0, 10), (0, 10), (0, 10), (0, 40), (0, 40), (0, 40), (0, 40), (0, 40), (0, 40), (0, 320), (8, 13), (0, 10), (0, 10), (0, 10), (0, 40), (0, 40), (0, 40), (0, 40), (0, 40), (0, 40), (0, 320), (8, 13), (0, 10), (0, 10), (0, 10), (0, 40), (0, 40), (0, 40), (0, 40), (0, 40), (0, 40), (0, 320), (11, 4), (0, 100), (7, 3), (5, 8), (0, 100), (0, 100), (0, 100), (0, 100), (6, 1), (3, 2), (8, 13), (0, 10), (0, 10), (0, 10), (0, 40), (0, 40), (0, 40), (0, 40), (0, 40), (0, 40), (0, 320), (8, 13), (0, 10), (0, 10), (0, 10), (0, 40), (0, 40), (0, 40), (0, 40), (0, 40), (0, 40), (0, 320), (2, 2), (13, 29), (0, 552), (0, 2760), (0, 552), (0, 100), (0, 1040), (0, 2), (0, 2), (1, 40), (0, 40), (1, 41), (1, 40), (0, 100), (0, 100), (0, 100), (0, 100), (2, 100), (0, 400), (1, 1)]
def pm_Rt : List (List (Option Nat)) := [[some 1, some 12, some 29, some 97, some 99, some 100, some 105, some 106, some 129], [none, some 2, some 3, some 4, some 5, some 6, some 7, some 8, some 9, some 10, some 11], [], [], [], [], [], [], [], [], [], [], [some 1, some 13, some 17, some 21, some 22, some 23, some 24, some 25, some 26, some 27, some 28], [some 14, some 15, some 16], [], [], [], [some 18, some 19, some 20], [], [], [], [], [], [], [], [], [], [], [], [some 30], [], [none, some 32, some 33, some 34, some 35, some 36, some 37, some 38, some 39, some 40, some 41], [], [], [], [], [], [], [], [], [], [], [none, some 43, some 44, some 45, some 46, some 47, some 48, some 49, some 50, some 51, some 52], [], [], [], [], [], [], [], [], [], [], [none, some 54, some 55, some 56, some 57, some 58, some 59, some 60, some 61, some 62, some 63], [], [], [], [], [], [], [], [], [], [], [none, some 65, some 66, some 67, some 68, some 69, some 70, some 71, some 72, some 73, some 74], [], [], [], [], [], [], [], [], [], [], [none, some 76, some 77, some 78, some 79, some 80, some 81, some 82, some 83, some 84, some 85], [], [], [], [], [], [], [], [], [], [], [none, some 87, some 88, some 89, some 90, some 91, some 92, some 93, some 94, some 95, some 96], [], [], [], [], [], [], [], [], [], [], [some 98], [], [some 1, some 12, some 97], [some 1, some 12, some 97, some 101, some 102, some 103, some 104], [], [], [], [], [], [some 107, some 118], [none, some 108, some 109, some 110, some 111, some 112, some 113, some 114, some 115, some 116, some 117], [], [], [], [], [], [], [], [], [], [], [none, some 119, some 120, some 121, some 122, some 123, some 124, some 125, some 126, some 127, some 128], [], [], [], [], [], [], [], [], [], [], [], [some 131, some 132, some 133, none, none, some 134, none, some 135, some 136, some 137, none, none, some 138, some 139, some 140, some 141, some 142, some 143, some 144, none, some 145, none, none, some 146, none, some 147], [], [], [], [], [], [], [], [], [], [], [], [], [], [], [], [], [], []]
def pm_R (r : Nat → Option Nat) (a j : Nat) : Option Nat := if a = 30 then r j else (pm_Rt.getD a []).getD j none
def pm (I : Nat → Nat → Int32) (L : Nat → Nat → Int64) (r : Nat → Option Nat) : hb_M := (pm_Λ, I, L, pm_R r)
def up2 {α : Type} (I : Nat → Nat → α) (a j : Nat) (x : α) : Nat → Nat → α := fun b i => if b = a ∧ i = j then x else I b i
theorem up2_va (I : Nat → Nat → Int32) (a j : Nat) (x : Int32) : va_up I a (upd (I a) j x) = up2 I a j x := by
  funext b i
  by_cases h : b = a
  · subst h
    simp [va_up, upd, up2]
  · simp [va_up, up2, h]
theorem up2_vaL (I : Nat → Nat → Int64) (a j : Nat) (x : Int64) : va_up I a (vp_updL (I a) j x) = up2 I a j x := by
  funext b i
  by_cases h : b = a
  · subst h
    simp [va_up, vp_updL, up2]
  · simp [va_up, up2, h]
theorem up2_at {α : Type} (I : Nat → Nat → α) (a j : Nat) (x : α) (b i : Nat) : up2 I a j x b i = if b = a ∧ i = j then x else I b i := rfl
theorem up2_row {α : Type} (I : Nat → Nat → α) {a b : Nat} (j : Nat) (x : α) (h : b ≠ a) : up2 I a j x b = I b := by
  funext i
  simp [up2, h]
section PSH
variable {I : Nat → Nat → Int32} {L : Nat → Nat → Int64} {r : Nat → Option Nat}
theorem pm_setI (a j : Nat) (x : Int32) : hb_setI (pm I L r) a j x = pm (up2 I a j x) L r := by
  show (pm_Λ, _, L, pm_R r) = _
  rw [← up2_va]; rfl
theorem pm_setL (a j : Nat) (x : Int64) : hb_setL (pm I L r) a j x = pm I (up2 L a j x) r := by
  show (pm_Λ, I, _, pm_R r) = _
  rw [← up2_vaL]; rfl
theorem pm_isO {a ci n k : Nat} (h : pm_Λ[a]? = some (ci + 4, n)) (hk : k < n) : hb_isO (pm I L r) a ci k = true := by
  unfold hb_isO
  rw [show (pm I L r).1[a]? = some (ci + 4, n) from h]
  simp [hk]
theorem pm_getI {a ci n k : Nat} (h : pm_Λ[a]? = some (ci + 4, n)) (hk : k < n) : hb_getI (pm I L r) a ci k = some (I a k) := by
  unfold hb_getI; rw [pm_isO h hk]; rfl
theorem pm_getL {a ci n k : Nat} (h : pm_Λ[a]? = some (ci + 4, n)) (hk : k < n) : hb_getL (pm I L r) a ci k = some (L a k) := by
  unfold hb_getL; rw [pm_isO h hk]; rfl
theorem pm_getR {a ci n k : Nat} {v : Option Nat} (h : pm_Λ[a]? = some (ci + 4, n)) (hk : k < n) (hv : pm_R r a k = v) : hb_getR (pm I L r) a ci k = v := by
  unfold hb_getR; rw [pm_isO h hk]; exact hv
theorem pm_putI {a ci n k : Nat} {x : Int32} (h : pm_Λ[a]? = some (ci + 4, n)) (hk : k < n) : hb_putI (pm I L r) a ci k x = some (pm (up2 I a k x) L r) := by
  unfold hb_putI; rw [pm_isO h hk, pm_setI]; rfl
theorem pm_putZ {a ci n k : Nat} {x : Int32} (h : pm_Λ[a]? = some (ci + 4, n)) (hk : k < n) (hx : x = nI 0 ∨ x = nI 1) : hb_putZ (pm I L r) a ci k x = some (pm (up2 I a k x) L r) := by
  unfold hb_putZ; rw [pm_isO h hk, pm_setI]
  have : (x == 0 || x == 1) = true := by rcases hx with h | h <;> (subst h; decide)
  rw [this]; rfl
theorem pm_putL {a ci n k : Nat} {x : Int64} (h : pm_Λ[a]? = some (ci + 4, n)) (hk : k < n) : hb_putL (pm I L r) a ci k x = some (pm I (up2 L a k x) r) := by
  unfold hb_putL; rw [pm_isO h hk, pm_setL]; rfl
theorem pm_iald {a n j : Nat} (h : pm_Λ[a]? = some (0, n)) (hn : n < 2 ^ 31) (hj : j < n) : hb_iald (pm I L r) a (nI j) = some (I a j) := by
  unfold hb_iald
  rw [show (pm I L r).1[a]? = some (0, n) from h]
  simp only [nI_clamp (Nat.lt_trans hj hn)]
  rw [if_neg (by rintro (h | h); exact nI_pos (Nat.lt_trans hj hn) h; omega)]; rfl
theorem pm_zald {a n j : Nat} (h : pm_Λ[a]? = some (2, n)) (hn : n < 2 ^ 31) (hj : j < n) : hb_zald (pm I L r) a (nI j) = some (I a j) := by
  unfold hb_zald
  rw [show (pm I L r).1[a]? = some (2, n) from h]
  simp only [nI_clamp (Nat.lt_trans hj hn)]
  rw [if_neg (by rintro (h | h); exact nI_pos (Nat.lt_trans hj hn) h; omega)]; rfl
theorem pm_lald {a n j : Nat} (h : pm_Λ[a]? = some (1, n)) (hn : n < 2 ^ 31) (hj : j < n) : hb_lald (pm I L r) a (nI j) = some (L a j) := by
  unfold hb_lald
  rw [show (pm I L r).1[a]? = some (1, n) from h]
  simp only [nI_clamp (Nat.lt_trans hj hn)]
  rw [if_neg (by rintro (h | h); exact nI_pos (Nat.lt_trans hj hn) h; omega)]; rfl
theorem pm_aald {a n j : Nat} {v : Option Nat} (h : pm_Λ[a]? = some (3, n)) (hn : n < 2 ^ 31) (hj : j < n) (hv : pm_R r a j = v) : hb_aald (pm I L r) a (nI j) = v := by
  unfold hb_aald
  rw [show (pm I L r).1[a]? = some (3, n) from h]
  simp only [nI_clamp (Nat.lt_trans hj hn)]
  rw [if_neg (by rintro (h | h); exact nI_pos (Nat.lt_trans hj hn) h; omega)]; exact hv
theorem pm_iast {a n j : Nat} {x : Int32} (h : pm_Λ[a]? = some (0, n)) (hn : n < 2 ^ 31) (hj : j < n) : hb_iast (pm I L r) a (nI j) x = some (pm (up2 I a j x) L r) := by
  unfold hb_iast
  rw [show (pm I L r).1[a]? = some (0, n) from h]
  simp only [nI_clamp (Nat.lt_trans hj hn)]
  rw [if_neg (by rintro (h | h); exact nI_pos (Nat.lt_trans hj hn) h; omega), pm_setI]
theorem pm_zast {a n j : Nat} {x : Int32} (h : pm_Λ[a]? = some (2, n)) (hn : n < 2 ^ 31) (hj : j < n) (hx : x = nI 0 ∨ x = nI 1) : hb_zast (pm I L r) a (nI j) x = some (pm (up2 I a j x) L r) := by
  unfold hb_zast
  rw [show (pm I L r).1[a]? = some (2, n) from h]
  simp only [nI_clamp (Nat.lt_trans hj hn)]
  rw [if_neg (by rintro (h | h); exact nI_pos (Nat.lt_trans hj hn) h; omega), show vp_nar .boolean x = x from by rcases hx with h | h <;> (subst h; decide), pm_setI]
theorem pm_last {a n j : Nat} {x : Int64} (h : pm_Λ[a]? = some (1, n)) (hn : n < 2 ^ 31) (hj : j < n) : hb_last (pm I L r) a (nI j) x = some (pm I (up2 L a j x) r) := by
  unfold hb_last
  rw [show (pm I L r).1[a]? = some (1, n) from h]
  simp only [nI_clamp (Nat.lt_trans hj hn)]
  rw [if_neg (by rintro (h | h); exact nI_pos (Nat.lt_trans hj hn) h; omega), pm_setL]
theorem pm_alen {a n : Nat} (h : pm_Λ[a]? = some (0, n)) : hb_alen (pm I L r) a = some (nI n) := by
  unfold hb_alen
  rw [show (pm I L r).1[a]? = some (0, n) from h]; rfl
theorem pm_on {α : Type} {a ci n : Nat} {x : Option α} (h : pm_Λ[a]? = some (ci + 4, n)) : hb_on (pm I L r) a ci x = x := by
  unfold hb_on
  rw [show (pm I L r).1[a]? = some (ci + 4, n) from h]
  simp
theorem pO_0 {α : Type} {x : Option α} : hb_on (pm I L r) 0 8 x = x := pm_on (n := 9) rfl
theorem pR_0_0 : hb_getR (pm I L r) 0 8 0 = some 1 := pm_getR (n := 9) rfl (by decide) rfl
theorem pR_0_1 : hb_getR (pm I L r) 0 8 1 = some 12 := pm_getR (n := 9) rfl (by decide) rfl
theorem pR_0_2 : hb_getR (pm I L r) 0 8 2 = some 29 := pm_getR (n := 9) rfl (by decide) rfl
theorem pR_0_3 : hb_getR (pm I L r) 0 8 3 = some 97 := pm_getR (n := 9) rfl (by decide) rfl
theorem pR_0_4 : hb_getR (pm I L r) 0 8 4 = some 99 := pm_getR (n := 9) rfl (by decide) rfl
theorem pR_0_5 : hb_getR (pm I L r) 0 8 5 = some 100 := pm_getR (n := 9) rfl (by decide) rfl
theorem pR_0_6 : hb_getR (pm I L r) 0 8 6 = some 105 := pm_getR (n := 9) rfl (by decide) rfl
theorem pR_0_7 : hb_getR (pm I L r) 0 8 7 = some 106 := pm_getR (n := 9) rfl (by decide) rfl
theorem pR_0_8 : hb_getR (pm I L r) 0 8 8 = some 129 := pm_getR (n := 9) rfl (by decide) rfl
theorem pO_12 {α : Type} {x : Option α} : hb_on (pm I L r) 12 0 x = x := pm_on (n := 13) rfl
theorem pR_12_0 : hb_getR (pm I L r) 12 0 0 = some 1 := pm_getR (n := 13) rfl (by decide) rfl
theorem pR_12_1 : hb_getR (pm I L r) 12 0 1 = some 13 := pm_getR (n := 13) rfl (by decide) rfl
theorem pR_12_2 : hb_getR (pm I L r) 12 0 2 = some 17 := pm_getR (n := 13) rfl (by decide) rfl
theorem pR_12_3 : hb_getR (pm I L r) 12 0 3 = some 21 := pm_getR (n := 13) rfl (by decide) rfl
theorem pR_12_4 : hb_getR (pm I L r) 12 0 4 = some 22 := pm_getR (n := 13) rfl (by decide) rfl
theorem pR_12_5 : hb_getR (pm I L r) 12 0 5 = some 23 := pm_getR (n := 13) rfl (by decide) rfl
theorem pR_12_6 : hb_getR (pm I L r) 12 0 6 = some 24 := pm_getR (n := 13) rfl (by decide) rfl
theorem pR_12_7 : hb_getR (pm I L r) 12 0 7 = some 25 := pm_getR (n := 13) rfl (by decide) rfl
theorem pR_12_8 : hb_getR (pm I L r) 12 0 8 = some 26 := pm_getR (n := 13) rfl (by decide) rfl
theorem pR_12_9 : hb_getR (pm I L r) 12 0 9 = some 27 := pm_getR (n := 13) rfl (by decide) rfl
theorem pR_12_10 : hb_getR (pm I L r) 12 0 10 = some 28 := pm_getR (n := 13) rfl (by decide) rfl
theorem pI_12_11 : hb_getI (pm I L r) 12 0 11 = some (I 12 11) := pm_getI (n := 13) rfl (by decide)
theorem pP_12_11 {x : Int32} : hb_putI (pm I L r) 12 0 11 x = some (pm (up2 I 12 11 x) L r) := pm_putI (n := 13) rfl (by decide)
theorem pI_12_12 : hb_getI (pm I L r) 12 0 12 = some (I 12 12) := pm_getI (n := 13) rfl (by decide)
theorem pP_12_12 {x : Int32} : hb_putI (pm I L r) 12 0 12 x = some (pm (up2 I 12 12 x) L r) := pm_putI (n := 13) rfl (by decide)
theorem pO_13 {α : Type} {x : Option α} : hb_on (pm I L r) 13 6 x = x := pm_on (n := 5) rfl
theorem pR_13_0 : hb_getR (pm I L r) 13 6 0 = some 14 := pm_getR (n := 5) rfl (by decide) rfl
theorem pR_13_1 : hb_getR (pm I L r) 13 6 1 = some 15 := pm_getR (n := 5) rfl (by decide) rfl
theorem pR_13_2 : hb_getR (pm I L r) 13 6 2 = some 16 := pm_getR (n := 5) rfl (by decide) rfl
theorem pI_13_3 : hb_getI (pm I L r) 13 6 3 = some (I 13 3) := pm_getI (n := 5) rfl (by decide)
theorem pP_13_3 {x : Int32} : hb_putI (pm I L r) 13 6 3 x = some (pm (up2 I 13 3 x) L r) := pm_putI (n := 5) rfl (by decide)
theorem pI_13_4 : hb_getL (pm I L r) 13 6 4 = some (L 13 4) := pm_getL (n := 5) rfl (by decide)
theorem pP_13_4 {x : Int64} : hb_putL (pm I L r) 13 6 4 x = some (pm I (up2 L 13 4 x) r) := pm_putL (n := 5) rfl (by decide)
theorem pA_14 {j : Nat} (h : j < 40) : hb_iald (pm I L r) 14 (nI j) = some (I 14 j) := pm_iald (n := 40) rfl (by decide) h
theorem pS_14 {j : Nat} {x : Int32} (h : j < 40) : hb_iast (pm I L r) 14 (nI j) x = some (pm (up2 I 14 j x) L r) := pm_iast (n := 40) rfl (by decide) h
theorem pA_15 {j : Nat} (h : j < 40) : hb_iald (pm I L r) 15 (nI j) = some (I 15 j) := pm_iald (n := 40) rfl (by decide) h
theorem pS_15 {j : Nat} {x : Int32} (h : j < 40) : hb_iast (pm I L r) 15 (nI j) x = some (pm (up2 I 15 j x) L r) := pm_iast (n := 40) rfl (by decide) h
theorem pA_16 {j : Nat} (h : j < 40) : hb_iald (pm I L r) 16 (nI j) = some (I 16 j) := pm_iald (n := 40) rfl (by decide) h
theorem pS_16 {j : Nat} {x : Int32} (h : j < 40) : hb_iast (pm I L r) 16 (nI j) x = some (pm (up2 I 16 j x) L r) := pm_iast (n := 40) rfl (by decide) h
theorem pO_17 {α : Type} {x : Option α} : hb_on (pm I L r) 17 6 x = x := pm_on (n := 5) rfl
theorem pR_17_0 : hb_getR (pm I L r) 17 6 0 = some 18 := pm_getR (n := 5) rfl (by decide) rfl
theorem pR_17_1 : hb_getR (pm I L r) 17 6 1 = some 19 := pm_getR (n := 5) rfl (by decide) rfl
theorem pR_17_2 : hb_getR (pm I L r) 17 6 2 = some 20 := pm_getR (n := 5) rfl (by decide) rfl
theorem pI_17_3 : hb_getI (pm I L r) 17 6 3 = some (I 17 3) := pm_getI (n := 5) rfl (by decide)
theorem pP_17_3 {x : Int32} : hb_putI (pm I L r) 17 6 3 x = some (pm (up2 I 17 3 x) L r) := pm_putI (n := 5) rfl (by decide)
theorem pI_17_4 : hb_getL (pm I L r) 17 6 4 = some (L 17 4) := pm_getL (n := 5) rfl (by decide)
theorem pP_17_4 {x : Int64} : hb_putL (pm I L r) 17 6 4 x = some (pm I (up2 L 17 4 x) r) := pm_putL (n := 5) rfl (by decide)
theorem pA_18 {j : Nat} (h : j < 40) : hb_iald (pm I L r) 18 (nI j) = some (I 18 j) := pm_iald (n := 40) rfl (by decide) h
theorem pS_18 {j : Nat} {x : Int32} (h : j < 40) : hb_iast (pm I L r) 18 (nI j) x = some (pm (up2 I 18 j x) L r) := pm_iast (n := 40) rfl (by decide) h
theorem pA_19 {j : Nat} (h : j < 40) : hb_iald (pm I L r) 19 (nI j) = some (I 19 j) := pm_iald (n := 40) rfl (by decide) h
theorem pS_19 {j : Nat} {x : Int32} (h : j < 40) : hb_iast (pm I L r) 19 (nI j) x = some (pm (up2 I 19 j x) L r) := pm_iast (n := 40) rfl (by decide) h
theorem pA_20 {j : Nat} (h : j < 40) : hb_iald (pm I L r) 20 (nI j) = some (I 20 j) := pm_iald (n := 40) rfl (by decide) h
theorem pS_20 {j : Nat} {x : Int32} (h : j < 40) : hb_iast (pm I L r) 20 (nI j) x = some (pm (up2 I 20 j x) L r) := pm_iast (n := 40) rfl (by decide) h
theorem pA_21 {j : Nat} (h : j < 320) : hb_iald (pm I L r) 21 (nI j) = some (I 21 j) := pm_iald (n := 320) rfl (by decide) h
theorem pS_21 {j : Nat} {x : Int32} (h : j < 320) : hb_iast (pm I L r) 21 (nI j) x = some (pm (up2 I 21 j x) L r) := pm_iast (n := 320) rfl (by decide) h
theorem pA_22 {j : Nat} (h : j < 40) : hb_lald (pm I L r) 22 (nI j) = some (L 22 j) := pm_lald (n := 40) rfl (by decide) h
theorem pS_22 {j : Nat} {x : Int64} (h : j < 40) : hb_last (pm I L r) 22 (nI j) x = some (pm I (up2 L 22 j x) r) := pm_last (n := 40) rfl (by decide) h
theorem pA_23 {j : Nat} (h : j < 40) : hb_iald (pm I L r) 23 (nI j) = some (I 23 j) := pm_iald (n := 40) rfl (by decide) h
theorem pS_23 {j : Nat} {x : Int32} (h : j < 40) : hb_iast (pm I L r) 23 (nI j) x = some (pm (up2 I 23 j x) L r) := pm_iast (n := 40) rfl (by decide) h
theorem pA_24 {j : Nat} (h : j < 40) : hb_iald (pm I L r) 24 (nI j) = some (I 24 j) := pm_iald (n := 40) rfl (by decide) h
theorem pS_24 {j : Nat} {x : Int32} (h : j < 40) : hb_iast (pm I L r) 24 (nI j) x = some (pm (up2 I 24 j x) L r) := pm_iast (n := 40) rfl (by decide) h
theorem pA_25 {j : Nat} (h : j < 40) : hb_iald (pm I L r) 25 (nI j) = some (I 25 j) := pm_iald (n := 40) rfl (by decide) h
theorem pS_25 {j : Nat} {x : Int32} (h : j < 40) : hb_iast (pm I L r) 25 (nI j) x = some (pm (up2 I 25 j x) L r) := pm_iast (n := 40) rfl (by decide) h
theorem pA_26 {j : Nat} (h : j < 40) : hb_iald (pm I L r) 26 (nI j) = some (I 26 j) := pm_iald (n := 40) rfl (by decide) h
theorem pS_26 {j : Nat} {x : Int32} (h : j < 40) : hb_iast (pm I L r) 26 (nI j) x = some (pm (up2 I 26 j x) L r) := pm_iast (n := 40) rfl (by decide) h
theorem pA_27 {j : Nat} (h : j < 40) : hb_lald (pm I L r) 27 (nI j) = some (L 27 j) := pm_lald (n := 40) rfl (by decide) h
theorem pS_27 {j : Nat} {x : Int64} (h : j < 40) : hb_last (pm I L r) 27 (nI j) x = some (pm I (up2 L 27 j x) r) := pm_last (n := 40) rfl (by decide) h
theorem pA_28 {j : Nat} (h : j < 40) : hb_iald (pm I L r) 28 (nI j) = some (I 28 j) := pm_iald (n := 40) rfl (by decide) h
theorem pS_28 {j : Nat} {x : Int32} (h : j < 40) : hb_iast (pm I L r) 28 (nI j) x = some (pm (up2 I 28 j x) L r) := pm_iast (n := 40) rfl (by decide) h
theorem pO_29 {α : Type} {x : Option α} : hb_on (pm I L r) 29 5 x = x := pm_on (n := 2) rfl
theorem pR_29_0 : hb_getR (pm I L r) 29 5 0 = some 30 := pm_getR (n := 2) rfl (by decide) rfl
theorem pI_29_1 : hb_getI (pm I L r) 29 5 1 = some (I 29 1) := pm_getI (n := 2) rfl (by decide)
theorem pP_29_1 {x : Int32} : hb_putI (pm I L r) 29 5 1 x = some (pm (up2 I 29 1 x) L r) := pm_putI (n := 2) rfl (by decide)
theorem pO_97 {α : Type} {x : Option α} : hb_on (pm I L r) 97 7 x = x := pm_on (n := 4) rfl
theorem pR_97_0 : hb_getR (pm I L r) 97 7 0 = some 98 := pm_getR (n := 4) rfl (by decide) rfl
theorem pI_97_1 : hb_getI (pm I L r) 97 7 1 = some (I 97 1) := pm_getI (n := 4) rfl (by decide)
theorem pP_97_1 {x : Int32} : hb_putI (pm I L r) 97 7 1 x = some (pm (up2 I 97 1 x) L r) := pm_putI (n := 4) rfl (by decide)
theorem pI_97_2 : hb_getI (pm I L r) 97 7 2 = some (I 97 2) := pm_getI (n := 4) rfl (by decide)
theorem pP_97_2 {x : Int32} : hb_putI (pm I L r) 97 7 2 x = some (pm (up2 I 97 2 x) L r) := pm_putI (n := 4) rfl (by decide)
theorem pI_97_3 : hb_getI (pm I L r) 97 7 3 = some (I 97 3) := pm_getI (n := 4) rfl (by decide)
theorem pP_97_3 {x : Int32} (hx : x = nI 0 ∨ x = nI 1) : hb_putZ (pm I L r) 97 7 3 x = some (pm (up2 I 97 3 x) L r) := pm_putZ (n := 4) rfl (by decide) hx
theorem pA_98 {j : Nat} (h : j < 100) : hb_iald (pm I L r) 98 (nI j) = some (I 98 j) := pm_iald (n := 100) rfl (by decide) h
theorem pS_98 {j : Nat} {x : Int32} (h : j < 100) : hb_iast (pm I L r) 98 (nI j) x = some (pm (up2 I 98 j x) L r) := pm_iast (n := 100) rfl (by decide) h
theorem pO_99 {α : Type} {x : Option α} : hb_on (pm I L r) 99 3 x = x := pm_on (n := 3) rfl
theorem pR_99_0 : hb_getR (pm I L r) 99 3 0 = some 1 := pm_getR (n := 3) rfl (by decide) rfl
theorem pR_99_1 : hb_getR (pm I L r) 99 3 1 = some 12 := pm_getR (n := 3) rfl (by decide) rfl
theorem pR_99_2 : hb_getR (pm I L r) 99 3 2 = some 97 := pm_getR (n := 3) rfl (by decide) rfl
theorem pO_100 {α : Type} {x : Option α} : hb_on (pm I L r) 100 1 x = x := pm_on (n := 8) rfl
theorem pR_100_0 : hb_getR (pm I L r) 100 1 0 = some 1 := pm_getR (n := 8) rfl (by decide) rfl
theorem pR_100_1 : hb_getR (pm I L r) 100 1 1 = some 12 := pm_getR (n := 8) rfl (by decide) rfl
theorem pR_100_2 : hb_getR (pm I L r) 100 1 2 = some 97 := pm_getR (n := 8) rfl (by decide) rfl
theorem pR_100_3 : hb_getR (pm I L r) 100 1 3 = some 101 := pm_getR (n := 8) rfl (by decide) rfl
theorem pR_100_4 : hb_getR (pm I L r) 100 1 4 = some 102 := pm_getR (n := 8) rfl (by decide) rfl
theorem pR_100_5 : hb_getR (pm I L r) 100 1 5 = some 103 := pm_getR (n := 8) rfl (by decide) rfl
theorem pR_100_6 : hb_getR (pm I L r) 100 1 6 = some 104 := pm_getR (n := 8) rfl (by decide) rfl
theorem pI_100_7 : hb_getI (pm I L r) 100 1 7 = some (I 100 7) := pm_getI (n := 8) rfl (by decide)
theorem pP_100_7 {x : Int32} : hb_putI (pm I L r) 100 1 7 x = some (pm (up2 I 100 7 x) L r) := pm_putI (n := 8) rfl (by decide)
theorem pA_101 {j : Nat} (h : j < 100) : hb_iald (pm I L r) 101 (nI j) = some (I 101 j) := pm_iald (n := 100) rfl (by decide) h
theorem pS_101 {j : Nat} {x : Int32} (h : j < 100) : hb_iast (pm I L r) 101 (nI j) x = some (pm (up2 I 101 j x) L r) := pm_iast (n := 100) rfl (by decide) h
theorem pA_102 {j : Nat} (h : j < 100) : hb_iald (pm I L r) 102 (nI j) = some (I 102 j) := pm_iald (n := 100) rfl (by decide) h
theorem pS_102 {j : Nat} {x : Int32} (h : j < 100) : hb_iast (pm I L r) 102 (nI j) x = some (pm (up2 I 102 j x) L r) := pm_iast (n := 100) rfl (by decide) h
theorem pA_103 {j : Nat} (h : j < 100) : hb_iald (pm I L r) 103 (nI j) = some (I 103 j) := pm_iald (n := 100) rfl (by decide) h
theorem pS_103 {j : Nat} {x : Int32} (h : j < 100) : hb_iast (pm I L r) 103 (nI j) x = some (pm (up2 I 103 j x) L r) := pm_iast (n := 100) rfl (by decide) h
theorem pA_104 {j : Nat} (h : j < 100) : hb_iald (pm I L r) 104 (nI j) = some (I 104 j) := pm_iald (n := 100) rfl (by decide) h
theorem pS_104 {j : Nat} {x : Int32} (h : j < 100) : hb_iast (pm I L r) 104 (nI j) x = some (pm (up2 I 104 j x) L r) := pm_iast (n := 100) rfl (by decide) h
theorem pO_105 {α : Type} {x : Option α} : hb_on (pm I L r) 105 2 x = x := pm_on (n := 1) rfl
theorem pI_105_0 : hb_getL (pm I L r) 105 2 0 = some (L 105 0) := pm_getL (n := 1) rfl (by decide)
theorem pP_105_0 {x : Int64} : hb_putL (pm I L r) 105 2 0 x = some (pm I (up2 L 105 0 x) r) := pm_putL (n := 1) rfl (by decide)
theorem pA_129 {j : Nat} (h : j < 2) : hb_zald (pm I L r) 129 (nI j) = some (I 129 j) := pm_zald (n := 2) rfl (by decide) h
theorem pS_129 {j : Nat} {x : Int32} (h : j < 2) (hx : x = nI 0 ∨ x = nI 1) : hb_zast (pm I L r) 129 (nI j) x = some (pm (up2 I 129 j x) L r) := pm_zast (n := 2) rfl (by decide) h hx
theorem pO_130 {α : Type} {x : Option α} : hb_on (pm I L r) 130 9 x = x := pm_on (n := 29) rfl
theorem pR_130_0 : hb_getR (pm I L r) 130 9 0 = some 131 := pm_getR (n := 29) rfl (by decide) rfl
theorem pR_130_1 : hb_getR (pm I L r) 130 9 1 = some 132 := pm_getR (n := 29) rfl (by decide) rfl
theorem pR_130_2 : hb_getR (pm I L r) 130 9 2 = some 133 := pm_getR (n := 29) rfl (by decide) rfl
theorem pI_130_3 : hb_getI (pm I L r) 130 9 3 = some (I 130 3) := pm_getI (n := 29) rfl (by decide)
theorem pP_130_3 {x : Int32} : hb_putI (pm I L r) 130 9 3 x = some (pm (up2 I 130 3 x) L r) := pm_putI (n := 29) rfl (by decide)
theorem pI_130_4 : hb_getI (pm I L r) 130 9 4 = some (I 130 4) := pm_getI (n := 29) rfl (by decide)
theorem pP_130_4 {x : Int32} : hb_putI (pm I L r) 130 9 4 x = some (pm (up2 I 130 4 x) L r) := pm_putI (n := 29) rfl (by decide)
theorem pR_130_5 : hb_getR (pm I L r) 130 9 5 = some 134 := pm_getR (n := 29) rfl (by decide) rfl
theorem pI_130_6 : hb_getI (pm I L r) 130 9 6 = some (I 130 6) := pm_getI (n := 29) rfl (by decide)
theorem pP_130_6 {x : Int32} : hb_putI (pm I L r) 130 9 6 x = some (pm (up2 I 130 6 x) L r) := pm_putI (n := 29) rfl (by decide)
theorem pR_130_7 : hb_getR (pm I L r) 130 9 7 = some 135 := pm_getR (n := 29) rfl (by decide) rfl
theorem pR_130_8 : hb_getR (pm I L r) 130 9 8 = some 136 := pm_getR (n := 29) rfl (by decide) rfl
theorem pR_130_9 : hb_getR (pm I L r) 130 9 9 = some 137 := pm_getR (n := 29) rfl (by decide) rfl
theorem pI_130_10 : hb_getL (pm I L r) 130 9 10 = some (L 130 10) := pm_getL (n := 29) rfl (by decide)
theorem pP_130_10 {x : Int64} : hb_putL (pm I L r) 130 9 10 x = some (pm I (up2 L 130 10 x) r) := pm_putL (n := 29) rfl (by decide)
theorem pI_130_11 : hb_getL (pm I L r) 130 9 11 = some (L 130 11) := pm_getL (n := 29) rfl (by decide)
theorem pP_130_11 {x : Int64} : hb_putL (pm I L r) 130 9 11 x = some (pm I (up2 L 130 11 x) r) := pm_putL (n := 29) rfl (by decide)
theorem pR_130_12 : hb_getR (pm I L r) 130 9 12 = some 138 := pm_getR (n := 29) rfl (by decide) rfl
theorem pR_130_13 : hb_getR (pm I L r) 130 9 13 = some 139 := pm_getR (n := 29) rfl (by decide) rfl
theorem pR_130_14 : hb_getR (pm I L r) 130 9 14 = some 140 := pm_getR (n := 29) rfl (by decide) rfl
theorem pR_130_15 : hb_getR (pm I L r) 130 9 15 = some 141 := pm_getR (n := 29) rfl (by decide) rfl
theorem pR_130_16 : hb_getR (pm I L r) 130 9 16 = some 142 := pm_getR (n := 29) rfl (by decide) rfl
theorem pR_130_17 : hb_getR (pm I L r) 130 9 17 = some 143 := pm_getR (n := 29) rfl (by decide) rfl
theorem pR_130_18 : hb_getR (pm I L r) 130 9 18 = some 144 := pm_getR (n := 29) rfl (by decide) rfl
theorem pI_130_19 : hb_getI (pm I L r) 130 9 19 = some (I 130 19) := pm_getI (n := 29) rfl (by decide)
theorem pP_130_19 {x : Int32} : hb_putI (pm I L r) 130 9 19 x = some (pm (up2 I 130 19 x) L r) := pm_putI (n := 29) rfl (by decide)
theorem pR_130_20 : hb_getR (pm I L r) 130 9 20 = some 145 := pm_getR (n := 29) rfl (by decide) rfl
theorem pI_130_21 : hb_getI (pm I L r) 130 9 21 = some (I 130 21) := pm_getI (n := 29) rfl (by decide)
theorem pP_130_21 {x : Int32} : hb_putI (pm I L r) 130 9 21 x = some (pm (up2 I 130 21 x) L r) := pm_putI (n := 29) rfl (by decide)
theorem pI_130_22 : hb_getI (pm I L r) 130 9 22 = some (I 130 22) := pm_getI (n := 29) rfl (by decide)
theorem pP_130_22 {x : Int32} : hb_putI (pm I L r) 130 9 22 x = some (pm (up2 I 130 22 x) L r) := pm_putI (n := 29) rfl (by decide)
theorem pR_130_23 : hb_getR (pm I L r) 130 9 23 = some 146 := pm_getR (n := 29) rfl (by decide) rfl
theorem pI_130_24 : hb_getL (pm I L r) 130 9 24 = some (L 130 24) := pm_getL (n := 29) rfl (by decide)
theorem pP_130_24 {x : Int64} : hb_putL (pm I L r) 130 9 24 x = some (pm I (up2 L 130 24 x) r) := pm_putL (n := 29) rfl (by decide)
theorem pR_130_25 : hb_getR (pm I L r) 130 9 25 = some 147 := pm_getR (n := 29) rfl (by decide) rfl
theorem pI_130_26 : hb_getI (pm I L r) 130 9 26 = some (I 130 26) := pm_getI (n := 29) rfl (by decide)
theorem pP_130_26 {x : Int32} : hb_putI (pm I L r) 130 9 26 x = some (pm (up2 I 130 26 x) L r) := pm_putI (n := 29) rfl (by decide)
theorem pI_130_27 : hb_getI (pm I L r) 130 9 27 = some (I 130 27) := pm_getI (n := 29) rfl (by decide)
theorem pP_130_27 {x : Int32} : hb_putI (pm I L r) 130 9 27 x = some (pm (up2 I 130 27 x) L r) := pm_putI (n := 29) rfl (by decide)
theorem pI_130_28 : hb_getL (pm I L r) 130 9 28 = some (L 130 28) := pm_getL (n := 29) rfl (by decide)
theorem pP_130_28 {x : Int64} : hb_putL (pm I L r) 130 9 28 x = some (pm I (up2 L 130 28 x) r) := pm_putL (n := 29) rfl (by decide)
theorem pA_131 {j : Nat} (h : j < 552) : hb_iald (pm I L r) 131 (nI j) = some (I 131 j) := pm_iald (n := 552) rfl (by decide) h
theorem pS_131 {j : Nat} {x : Int32} (h : j < 552) : hb_iast (pm I L r) 131 (nI j) x = some (pm (up2 I 131 j x) L r) := pm_iast (n := 552) rfl (by decide) h
theorem pA_132 {j : Nat} (h : j < 2760) : hb_iald (pm I L r) 132 (nI j) = some (I 132 j) := pm_iald (n := 2760) rfl (by decide) h
theorem pS_132 {j : Nat} {x : Int32} (h : j < 2760) : hb_iast (pm I L r) 132 (nI j) x = some (pm (up2 I 132 j x) L r) := pm_iast (n := 2760) rfl (by decide) h
theorem pA_133 {j : Nat} (h : j < 552) : hb_iald (pm I L r) 133 (nI j) = some (I 133 j) := pm_iald (n := 552) rfl (by decide) h
theorem pS_133 {j : Nat} {x : Int32} (h : j < 552) : hb_iast (pm I L r) 133 (nI j) x = some (pm (up2 I 133 j x) L r) := pm_iast (n := 552) rfl (by decide) h
theorem pA_134 {j : Nat} (h : j < 100) : hb_iald (pm I L r) 134 (nI j) = some (I 134 j) := pm_iald (n := 100) rfl (by decide) h
theorem pS_134 {j : Nat} {x : Int32} (h : j < 100) : hb_iast (pm I L r) 134 (nI j) x = some (pm (up2 I 134 j x) L r) := pm_iast (n := 100) rfl (by decide) h
theorem pA_135 {j : Nat} (h : j < 1040) : hb_iald (pm I L r) 135 (nI j) = some (I 135 j) := pm_iald (n := 1040) rfl (by decide) h
theorem pS_135 {j : Nat} {x : Int32} (h : j < 1040) : hb_iast (pm I L r) 135 (nI j) x = some (pm (up2 I 135 j x) L r) := pm_iast (n := 1040) rfl (by decide) h
theorem pA_136 {j : Nat} (h : j < 2) : hb_iald (pm I L r) 136 (nI j) = some (I 136 j) := pm_iald (n := 2) rfl (by decide) h
theorem pS_136 {j : Nat} {x : Int32} (h : j < 2) : hb_iast (pm I L r) 136 (nI j) x = some (pm (up2 I 136 j x) L r) := pm_iast (n := 2) rfl (by decide) h
theorem pA_137 {j : Nat} (h : j < 2) : hb_iald (pm I L r) 137 (nI j) = some (I 137 j) := pm_iald (n := 2) rfl (by decide) h
theorem pS_137 {j : Nat} {x : Int32} (h : j < 2) : hb_iast (pm I L r) 137 (nI j) x = some (pm (up2 I 137 j x) L r) := pm_iast (n := 2) rfl (by decide) h
theorem pA_138 {j : Nat} (h : j < 40) : hb_lald (pm I L r) 138 (nI j) = some (L 138 j) := pm_lald (n := 40) rfl (by decide) h
theorem pS_138 {j : Nat} {x : Int64} (h : j < 40) : hb_last (pm I L r) 138 (nI j) x = some (pm I (up2 L 138 j x) r) := pm_last (n := 40) rfl (by decide) h
theorem pA_139 {j : Nat} (h : j < 40) : hb_iald (pm I L r) 139 (nI j) = some (I 139 j) := pm_iald (n := 40) rfl (by decide) h
theorem pS_139 {j : Nat} {x : Int32} (h : j < 40) : hb_iast (pm I L r) 139 (nI j) x = some (pm (up2 I 139 j x) L r) := pm_iast (n := 40) rfl (by decide) h
theorem pA_140 {j : Nat} (h : j < 41) : hb_lald (pm I L r) 140 (nI j) = some (L 140 j) := pm_lald (n := 41) rfl (by decide) h
theorem pS_140 {j : Nat} {x : Int64} (h : j < 41) : hb_last (pm I L r) 140 (nI j) x = some (pm I (up2 L 140 j x) r) := pm_last (n := 41) rfl (by decide) h
theorem pA_141 {j : Nat} (h : j < 40) : hb_lald (pm I L r) 141 (nI j) = some (L 141 j) := pm_lald (n := 40) rfl (by decide) h
theorem pS_141 {j : Nat} {x : Int64} (h : j < 40) : hb_last (pm I L r) 141 (nI j) x = some (pm I (up2 L 141 j x) r) := pm_last (n := 40) rfl (by decide) h
theorem pA_142 {j : Nat} (h : j < 100) : hb_iald (pm I L r) 142 (nI j) = some (I 142 j) := pm_iald (n := 100) rfl (by decide) h
theorem pS_142 {j : Nat} {x : Int32} (h : j < 100) : hb_iast (pm I L r) 142 (nI j) x = some (pm (up2 I 142 j x) L r) := pm_iast (n := 100) rfl (by decide) h
theorem pA_143 {j : Nat} (h : j < 100) : hb_iald (pm I L r) 143 (nI j) = some (I 143 j) := pm_iald (n := 100) rfl (by decide) h
theorem pS_143 {j : Nat} {x : Int32} (h : j < 100) : hb_iast (pm I L r) 143 (nI j) x = some (pm (up2 I 143 j x) L r) := pm_iast (n := 100) rfl (by decide) h
theorem pA_144 {j : Nat} (h : j < 100) : hb_iald (pm I L r) 144 (nI j) = some (I 144 j) := pm_iald (n := 100) rfl (by decide) h
theorem pS_144 {j : Nat} {x : Int32} (h : j < 100) : hb_iast (pm I L r) 144 (nI j) x = some (pm (up2 I 144 j x) L r) := pm_iast (n := 100) rfl (by decide) h
theorem pA_145 {j : Nat} (h : j < 100) : hb_iald (pm I L r) 145 (nI j) = some (I 145 j) := pm_iald (n := 100) rfl (by decide) h
theorem pS_145 {j : Nat} {x : Int32} (h : j < 100) : hb_iast (pm I L r) 145 (nI j) x = some (pm (up2 I 145 j x) L r) := pm_iast (n := 100) rfl (by decide) h
theorem pA_146 {j : Nat} (h : j < 100) : hb_zald (pm I L r) 146 (nI j) = some (I 146 j) := pm_zald (n := 100) rfl (by decide) h
theorem pS_146 {j : Nat} {x : Int32} (h : j < 100) (hx : x = nI 0 ∨ x = nI 1) : hb_zast (pm I L r) 146 (nI j) x = some (pm (up2 I 146 j x) L r) := pm_zast (n := 100) rfl (by decide) h hx
theorem pA_147 {j : Nat} (h : j < 400) : hb_iald (pm I L r) 147 (nI j) = some (I 147 j) := pm_iald (n := 400) rfl (by decide) h
theorem pS_147 {j : Nat} {x : Int32} (h : j < 400) : hb_iast (pm I L r) 147 (nI j) x = some (pm (up2 I 147 j x) L r) := pm_iast (n := 400) rfl (by decide) h
theorem pA_148 {j : Nat} (h : j < 1) : hb_lald (pm I L r) 148 (nI j) = some (L 148 j) := pm_lald (n := 1) rfl (by decide) h
theorem pS_148 {j : Nat} {x : Int64} (h : j < 1) : hb_last (pm I L r) 148 (nI j) x = some (pm I (up2 L 148 j x) r) := pm_last (n := 1) rfl (by decide) h
def pm_hp (h : Nat) : Prop := h = 1 ∨ h = 31 ∨ h = 42 ∨ h = 53 ∨ h = 64 ∨ h = 75 ∨ h = 86 ∨ h = 107 ∨ h = 118
theorem pO_h {h : Nat} (hh : pm_hp h) {α : Type} {x : Option α} : hb_on (pm I L r) h 4 x = x := by
  rcases hh with e | e | e | e | e | e | e | e | e <;> (subst e; exact pm_on (n := 13) rfl)
theorem pI_h_0 {h : Nat} (hh : pm_hp h) : hb_getI (pm I L r) h 4 0 = some (I h 0) := by
  rcases hh with e | e | e | e | e | e | e | e | e <;> (subst e; exact pm_getI (n := 13) rfl (by decide))
theorem pP_h_0 {h : Nat} (hh : pm_hp h) {x : Int32} : hb_putI (pm I L r) h 4 0 x = some (pm (up2 I h 0 x) L r) := by
  rcases hh with e | e | e | e | e | e | e | e | e <;> (subst e; exact pm_putI (n := 13) rfl (by decide))
theorem pI_h_11 {h : Nat} (hh : pm_hp h) : hb_getI (pm I L r) h 4 11 = some (I h 11) := by
  rcases hh with e | e | e | e | e | e | e | e | e <;> (subst e; exact pm_getI (n := 13) rfl (by decide))
theorem pP_h_11 {h : Nat} (hh : pm_hp h) {x : Int32} : hb_putI (pm I L r) h 4 11 x = some (pm (up2 I h 11 x) L r) := by
  rcases hh with e | e | e | e | e | e | e | e | e <;> (subst e; exact pm_putI (n := 13) rfl (by decide))
theorem pI_h_12 {h : Nat} (hh : pm_hp h) : hb_getI (pm I L r) h 4 12 = some (I h 12) := by
  rcases hh with e | e | e | e | e | e | e | e | e <;> (subst e; exact pm_getI (n := 13) rfl (by decide))
theorem pP_h_12 {h : Nat} (hh : pm_hp h) {x : Int32} : hb_putI (pm I L r) h 4 12 x = some (pm (up2 I h 12 x) L r) := by
  rcases hh with e | e | e | e | e | e | e | e | e <;> (subst e; exact pm_putI (n := 13) rfl (by decide))
theorem pR_h_1 {h : Nat} (hh : pm_hp h) : hb_getR (pm I L r) h 4 1 = some (h + 1) := by
  rcases hh with e | e | e | e | e | e | e | e | e <;> (subst e; exact pm_getR (n := 13) rfl (by decide) rfl)
theorem pA_h_1 {h : Nat} (hh : pm_hp h) {j : Nat} (hj : j < 10) : hb_iald (pm I L r) (h + 1) (nI j) = some (I (h + 1) j) := by
  rcases hh with e | e | e | e | e | e | e | e | e <;> (subst e; exact pm_iald (n := 10) rfl (by decide) hj)
theorem pS_h_1 {h : Nat} (hh : pm_hp h) {j : Nat} {x : Int32} (hj : j < 10) : hb_iast (pm I L r) (h + 1) (nI j) x = some (pm (up2 I (h + 1) j x) L r) := by
  rcases hh with e | e | e | e | e | e | e | e | e <;> (subst e; exact pm_iast (n := 10) rfl (by decide) hj)
theorem pR_h_2 {h : Nat} (hh : pm_hp h) : hb_getR (pm I L r) h 4 2 = some (h + 2) := by
  rcases hh with e | e | e | e | e | e | e | e | e <;> (subst e; exact pm_getR (n := 13) rfl (by decide) rfl)
theorem pA_h_2 {h : Nat} (hh : pm_hp h) {j : Nat} (hj : j < 10) : hb_iald (pm I L r) (h + 2) (nI j) = some (I (h + 2) j) := by
  rcases hh with e | e | e | e | e | e | e | e | e <;> (subst e; exact pm_iald (n := 10) rfl (by decide) hj)
theorem pS_h_2 {h : Nat} (hh : pm_hp h) {j : Nat} {x : Int32} (hj : j < 10) : hb_iast (pm I L r) (h + 2) (nI j) x = some (pm (up2 I (h + 2) j x) L r) := by
  rcases hh with e | e | e | e | e | e | e | e | e <;> (subst e; exact pm_iast (n := 10) rfl (by decide) hj)
theorem pR_h_3 {h : Nat} (hh : pm_hp h) : hb_getR (pm I L r) h 4 3 = some (h + 3) := by
  rcases hh with e | e | e | e | e | e | e | e | e <;> (subst e; exact pm_getR (n := 13) rfl (by decide) rfl)
theorem pA_h_3 {h : Nat} (hh : pm_hp h) {j : Nat} (hj : j < 10) : hb_iald (pm I L r) (h + 3) (nI j) = some (I (h + 3) j) := by
  rcases hh with e | e | e | e | e | e | e | e | e <;> (subst e; exact pm_iald (n := 10) rfl (by decide) hj)
theorem pS_h_3 {h : Nat} (hh : pm_hp h) {j : Nat} {x : Int32} (hj : j < 10) : hb_iast (pm I L r) (h + 3) (nI j) x = some (pm (up2 I (h + 3) j x) L r) := by
  rcases hh with e | e | e | e | e | e | e | e | e <;> (subst e; exact pm_iast (n := 10) rfl (by decide) hj)
theorem pR_h_4 {h : Nat} (hh : pm_hp h) : hb_getR (pm I L r) h 4 4 = some (h + 4) := by
  rcases hh with e | e | e | e | e | e | e | e | e <;> (subst e; exact pm_getR (n := 13) rfl (by decide) rfl)
theorem pA_h_4 {h : Nat} (hh : pm_hp h) {j : Nat} (hj : j < 40) : hb_iald (pm I L r) (h + 4) (nI j) = some (I (h + 4) j) := by
  rcases hh with e | e | e | e | e | e | e | e | e <;> (subst e; exact pm_iald (n := 40) rfl (by decide) hj)
theorem pS_h_4 {h : Nat} (hh : pm_hp h) {j : Nat} {x : Int32} (hj : j < 40) : hb_iast (pm I L r) (h + 4) (nI j) x = some (pm (up2 I (h + 4) j x) L r) := by
  rcases hh with e | e | e | e | e | e | e | e | e <;> (subst e; exact pm_iast (n := 40) rfl (by decide) hj)
theorem pR_h_5 {h : Nat} (hh : pm_hp h) : hb_getR (pm I L r) h 4 5 = some (h + 5) := by
  rcases hh with e | e | e | e | e | e | e | e | e <;> (subst e; exact pm_getR (n := 13) rfl (by decide) rfl)
theorem pA_h_5 {h : Nat} (hh : pm_hp h) {j : Nat} (hj : j < 40) : hb_iald (pm I L r) (h + 5) (nI j) = some (I (h + 5) j) := by
  rcases hh with e | e | e | e | e | e | e | e | e <;> (subst e; exact pm_iald (n := 40) rfl (by decide) hj)
theorem pS_h_5 {h : Nat} (hh : pm_hp h) {j : Nat} {x : Int32} (hj : j < 40) : hb_iast (pm I L r) (h + 5) (nI j) x = some (pm (up2 I (h + 5) j x) L r) := by
  rcases hh with e | e | e | e | e | e | e | e | e <;> (subst e; exact pm_iast (n := 40) rfl (by decide) hj)
theorem pR_h_6 {h : Nat} (hh : pm_hp h) : hb_getR (pm I L r) h 4 6 = some (h + 6) := by
  rcases hh with e | e | e | e | e | e | e | e | e <;> (subst e; exact pm_getR (n := 13) rfl (by decide) rfl)
theorem pA_h_6 {h : Nat} (hh : pm_hp h) {j : Nat} (hj : j < 40) : hb_iald (pm I L r) (h + 6) (nI j) = some (I (h + 6) j) := by
  rcases hh with e | e | e | e | e | e | e | e | e <;> (subst e; exact pm_iald (n := 40) rfl (by decide) hj)
theorem pS_h_6 {h : Nat} (hh : pm_hp h) {j : Nat} {x : Int32} (hj : j < 40) : hb_iast (pm I L r) (h + 6) (nI j) x = some (pm (up2 I (h + 6) j x) L r) := by
  rcases hh with e | e | e | e | e | e | e | e | e <;> (subst e; exact pm_iast (n := 40) rfl (by decide) hj)
theorem pR_h_7 {h : Nat} (hh : pm_hp h) : hb_getR (pm I L r) h 4 7 = some (h + 7) := by
  rcases hh with e | e | e | e | e | e | e | e | e <;> (subst e; exact pm_getR (n := 13) rfl (by decide) rfl)
theorem pA_h_7 {h : Nat} (hh : pm_hp h) {j : Nat} (hj : j < 40) : hb_iald (pm I L r) (h + 7) (nI j) = some (I (h + 7) j) := by
  rcases hh with e | e | e | e | e | e | e | e | e <;> (subst e; exact pm_iald (n := 40) rfl (by decide) hj)
theorem pS_h_7 {h : Nat} (hh : pm_hp h) {j : Nat} {x : Int32} (hj : j < 40) : hb_iast (pm I L r) (h + 7) (nI j) x = some (pm (up2 I (h + 7) j x) L r) := by
  rcases hh with e | e | e | e | e | e | e | e | e <;> (subst e; exact pm_iast (n := 40) rfl (by decide) hj)
theorem pR_h_8 {h : Nat} (hh : pm_hp h) : hb_getR (pm I L r) h 4 8 = some (h + 8) := by
  rcases hh with e | e | e | e | e | e | e | e | e <;> (subst e; exact pm_getR (n := 13) rfl (by decide) rfl)
theorem pA_h_8 {h : Nat} (hh : pm_hp h) {j : Nat} (hj : j < 40) : hb_iald (pm I L r) (h + 8) (nI j) = some (I (h + 8) j) := by
  rcases hh with e | e | e | e | e | e | e | e | e <;> (subst e; exact pm_iald (n := 40) rfl (by decide) hj)
theorem pS_h_8 {h : Nat} (hh : pm_hp h) {j : Nat} {x : Int32} (hj : j < 40) : hb_iast (pm I L r) (h + 8) (nI j) x = some (pm (up2 I (h + 8) j x) L r) := by
  rcases hh with e | e | e | e | e | e | e | e | e <;> (subst e; exact pm_iast (n := 40) rfl (by decide) hj)
theorem pR_h_9 {h : Nat} (hh : pm_hp h) : hb_getR (pm I L r) h 4 9 = some (h + 9) := by
  rcases hh with e | e | e | e | e | e | e | e | e <;> (subst e; exact pm_getR (n := 13) rfl (by decide) rfl)
theorem pA_h_9 {h : Nat} (hh : pm_hp h) {j : Nat} (hj : j < 40) : hb_iald (pm I L r) (h + 9) (nI j) = some (I (h + 9) j) := by
  rcases hh with e | e | e | e | e | e | e | e | e <;> (subst e; exact pm_iald (n := 40) rfl (by decide) hj)
theorem pS_h_9 {h : Nat} (hh : pm_hp h) {j : Nat} {x : Int32} (hj : j < 40) : hb_iast (pm I L r) (h + 9) (nI j) x = some (pm (up2 I (h + 9) j x) L r) := by
  rcases hh with e | e | e | e | e | e | e | e | e <;> (subst e; exact pm_iast (n := 40) rfl (by decide) hj)
theorem pR_h_10 {h : Nat} (hh : pm_hp h) : hb_getR (pm I L r) h 4 10 = some (h + 10) := by
  rcases hh with e | e | e | e | e | e | e | e | e <;> (subst e; exact pm_getR (n := 13) rfl (by decide) rfl)
theorem pA_h_10 {h : Nat} (hh : pm_hp h) {j : Nat} (hj : j < 320) : hb_iald (pm I L r) (h + 10) (nI j) = some (I (h + 10) j) := by
  rcases hh with e | e | e | e | e | e | e | e | e <;> (subst e; exact pm_iald (n := 320) rfl (by decide) hj)
theorem pS_h_10 {h : Nat} (hh : pm_hp h) {j : Nat} {x : Int32} (hj : j < 320) : hb_iast (pm I L r) (h + 10) (nI j) x = some (pm (up2 I (h + 10) j x) L r) := by
  rcases hh with e | e | e | e | e | e | e | e | e <;> (subst e; exact pm_iast (n := 320) rfl (by decide) hj)
end PSH
