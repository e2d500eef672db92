/-! the law's start: what the constructors lay -/
section START
def dl : List (Nat × ((Nat → Int32) → Nat → Int32)) → Nat → Nat → Int32
  | [] => fun _ _ => 0
  | e :: u => va_up (dl u) e.1 (e.2 (dl u e.1))
def rl : List (Nat × Option (Nat × Nat)) → Nat → Nat → Option Nat
  | [] => fun _ _ => none
  | (a, none) :: v => va_up (rl v) a (fun _ => none)
  | (a, some (j, b)) :: v => va_up (rl v) a (va_up (rl v a) j (some b))
def uc (a : Nat) : Nat × ((Nat → Int32) → Nat → Int32) := (a, fun _ _ => 0)
def uq (a j : Nat) (x : Int32) : Nat × ((Nat → Int32) → Nat → Int32) := (a, fun g => upd g j x)
def uf (a n : Nat) (x : Int32) : Nat × ((Nat → Int32) → Nat → Int32) := (a, fun g j => if j < n then x else g j)
def qm (k : Nat) (u : List (Nat × ((Nat → Int32) → Nat → Int32))) (v : List (Nat × Option (Nat × Nat))) : hb_M := (pm_Λ.take k, dl u, fun _ _ => 0, rl v)
variable {k k' a b c ci n j h : Nat} {u : List (Nat × ((Nat → Int32) → Nat → Int32))} {v : List (Nat × Option (Nat × Nat))} {x m : Int32}
set_option maxRecDepth 8192 in
theorem rl_hit : rl ((a, some (j, b)) :: v) a j = some b := by simp [rl, va_up]
set_option maxRecDepth 8192 in
theorem rl_m1 {q : Option (Nat × Nat)} (h : c ≠ a) : rl ((c, q) :: v) a j = rl v a j := by
  match q with
  | none => simp [rl, va_up, Ne.symm h]
  | some (i, b) => simp [rl, va_up, Ne.symm h]
set_option maxRecDepth 8192 in
theorem rl_m2 {i : Nat} (h : i ≠ j) : rl ((a, some (i, b)) :: v) a j = rl v a j := by simp [rl, va_up, Ne.symm h]
set_option maxRecDepth 8192 in
theorem rl_ap : ∀ {l : List (Nat × Option (Nat × Nat))}, l.all (fun e => decide (e.1 ≠ a)) = true → rl (l ++ v) a j = rl v a j
  | [], _ => rfl
  | (c, q) :: l, h => by
    simp only [List.all_cons, Bool.and_eq_true, decide_eq_true_eq] at h
    rw [List.cons_append, rl_m1 h.1]
    exact rl_ap h.2
set_option maxRecDepth 8192 in
theorem qm_at (hk : a < k) : (qm k u v).1[a]? = pm_Λ[a]? := List.getElem?_take_of_lt hk
set_option maxRecDepth 8192 in
theorem qm_isO (ha : pm_Λ[a]? = some (ci + 4, n)) (hk : a < k) (hj : j < n) : hb_isO (qm k u v) a ci j = true := by
  unfold hb_isO
  rw [qm_at hk, ha]
  simp [hj]
set_option maxRecDepth 8192 in
theorem qm_len (ha : pm_Λ[k]? = some (a, n)) : (qm k u v).1.length = k := by
  have : k < pm_Λ.length := (List.getElem?_eq_some_iff.mp ha).1
  show (pm_Λ.take k).length = k
  rw [List.length_take]
  omega
set_option maxRecDepth 8192 in
theorem qm_new (ha : pm_Λ[k]? = some (a, n)) (hk : k' = k + 1) : hb_new (qm k u v) a n = qm k' (uc k :: u) ((k, none) :: v) := by
  subst hk
  unfold hb_new
  rw [qm_len ha]
  have h1 : (qm k u v).1 ++ [(a, n)] = pm_Λ.take (k + 1) := by
    show pm_Λ.take k ++ [(a, n)] = _
    rw [List.take_add_one, ha]
    rfl
  have h2 : va_up (fun (_ _ : Nat) => (0 : Int64)) k (fun _ => 0) = fun _ _ => 0 := by
    funext i j
    unfold va_up
    split <;> rfl
  rw [h1]
  show (_, _, va_up (fun (_ _ : Nat) => (0 : Int64)) k (fun _ => 0), _) = _
  rw [h2]
  rfl
set_option maxRecDepth 8192 in
theorem qm_newO (ha : pm_Λ[k]? = some (ci + 4, n)) (hk : k' = k + 1) : hb_newO (qm k u v) ci n = some (k, qm k' (uc k :: u) ((k, none) :: v)) := by
  unfold hb_newO
  rw [qm_new ha hk, qm_len ha]
set_option maxRecDepth 8192 in
theorem qm_newA (ha : pm_Λ[k]? = some (a, n)) (hm : m = nI n) (hn : n ≤ 10000) (hk : k' = k + 1) : hb_newA (qm k u v) a m = some (k, qm k' (uc k :: u) ((k, none) :: v)) := by
  subst hm
  unfold hb_newA
  rw [nI_clamp (by omega), if_neg (by rintro (h | h); exact nI_pos (by omega) h; omega), qm_new ha hk, qm_len ha]
set_option maxRecDepth 8192 in
theorem qm_putR (ha : pm_Λ[a]? = some (ci + 4, n)) (hk : a < k) (hj : j < n) : hb_putR (qm k u v) a ci j b = some (qm k u ((a, some (j, b)) :: v)) := by
  unfold hb_putR
  rw [qm_isO ha hk hj, if_pos rfl]
  rfl
set_option maxRecDepth 8192 in
theorem qm_putI (ha : pm_Λ[a]? = some (ci + 4, n)) (hk : a < k) (hj : j < n) : hb_putI (qm k u v) a ci j x = some (qm k (uq a j x :: u) v) := by
  unfold hb_putI
  rw [qm_isO ha hk hj, if_pos rfl]
  rfl
set_option maxRecDepth 8192 in
theorem qm_getR (ha : pm_Λ[a]? = some (ci + 4, n)) (hk : a < k) (hj : j < n) : hb_getR (qm k u v) a ci j = rl v a j := by
  unfold hb_getR
  rw [qm_isO ha hk hj, if_pos rfl]
  rfl
set_option maxRecDepth 8192 in
theorem qm_iast (ha : pm_Λ[a]? = some (0, n)) (hn : n < 2 ^ 31) (hk : a < k) (hj : j < n) : hb_iast (qm k u v) a (nI j) x = some (qm k (uq a j x :: u) v) := by
  unfold hb_iast
  rw [qm_at hk, ha]
  simp only [nI_clamp (show j < 2 ^ 31 from by omega)]
  rw [if_neg (by rintro (h | h); exact nI_pos (by omega) h; omega)]
  rfl
set_option maxRecDepth 8192 in
theorem qm_aast {q : Nat} (ha : pm_Λ[a]? = some (3, n)) (hb : pm_Λ[b]? = some (8, q)) (hn : n < 2 ^ 31) (hk : a < k) (hkb : b < k) (hj : j < n) : hb_aast (qm k u v) a (nI j) b = some (qm k u ((a, some (j, b)) :: v)) := by
  unfold hb_aast
  rw [qm_at hk, qm_at hkb, ha, hb]
  simp only [nI_clamp (show j < 2 ^ 31 from by omega)]
  rw [if_neg (by rintro (h | h); exact nI_pos (by omega) h; omega)]
  rfl
set_option maxRecDepth 8192 in
theorem dl_f0 : dl (uf a 0 x :: u) = dl u := by
  funext c i
  by_cases e : c = a
  · subst e
    simp [dl, va_up, uf]
  · simp [dl, va_up, uf, e]
set_option maxRecDepth 8192 in
theorem dl_fs {i : Nat} : dl (uq a i x :: uf a i x :: u) = dl (uf a (i + 1) x :: u) := by
  funext c q
  by_cases e : c = a
  · subst e
    simp only [dl, va_up, uf, uq, if_true, upd]
    by_cases e1 : q = i
    · simp [upd, e1]
    · have : q < i + 1 ↔ q < i := by omega
      simp [upd, e1, this]
  · simp [dl, va_up, uf, uq, e]
set_option maxRecDepth 8192 in
theorem qm_fill (ha : pm_Λ[a]? = some (0, n)) (hn : n < 4000) (hk : a < k) : f_J7_fill_53178 a x (qm k u v) = some (qm k (uf a n x :: u) v) := by
  have hl : hb_alen (qm k u v) a = some (nI n) := by
    unfold hb_alen
    rw [qm_at hk, ha]
    rfl
  have key : ∀ d i F, i + d = n → d < F → f_J7_fill_53178_b5 F a x (nI i) (nI n) (qm k (uf a i x :: u) v) = some (qm k (uf a n x :: u) v) := by
    intro d
    induction d with
    | zero =>
      intro i F h1 h2
      obtain ⟨F', rfl⟩ : ∃ F', F = F' + 1 := ⟨F - 1, by omega⟩
      have e : i = n := by omega
      subst e
      rw [f_J7_fill_53178_b5, if_pos ((pn_le (by omega) (by omega)).mpr (Nat.le_refl _))]
    | succ d ih =>
      intro i F h1 h2
      obtain ⟨F', rfl⟩ : ∃ F', F = F' + 1 := ⟨F - 1, by omega⟩
      have e2 : ¬ nI n ≤ nI i := by
        rw [pn_le (by omega) (by omega)]
        omega
      rw [f_J7_fill_53178_b5, if_neg e2, qm_iast ha (by omega) hk (by omega), pbs]
      have e3 : qm k (uq a i x :: uf a i x :: u) v = qm k (uf a (i + 1) x :: u) v := by
        unfold qm
        rw [dl_fs]
      rw [e3, show nI i + (1 : Int32) = nI (i + 1) from nI_add ..]
      exact ih (i + 1) F' (by omega) (by omega)
  have h0 : qm k u v = qm k (uf a 0 x :: u) v := by
    unfold qm
    rw [dl_f0]
  unfold f_J7_fill_53178
  rw [hl, pbs]
  have := key n 0 hb_FU (by omega) (Nat.lt_of_lt_of_le (show n < 4000 from hn) (by decide))
  rw [← h0] at this
  exact this
def u4 (h : Nat) : List (Nat × ((Nat → Int32) → Nat → Int32)) := [uq (h) 11 (nI 1), uf (h + 10) 320 (-nI 1), uf (h + 4) 40 (-nI 1), uq (h + 1) 0 (-nI 1), uq (h) 0 (nI 1), uc (h + 10), uc (h + 9), uc (h + 8), uc (h + 7), uc (h + 6), uc (h + 5), uc (h + 4), uc (h + 3), uc (h + 2), uc (h + 1)]
def v4 (h : Nat) : List (Nat × Option (Nat × Nat)) := [(h, some (10, h + 10)), (h + 10, none), (h, some (9, h + 9)), (h + 9, none), (h, some (8, h + 8)), (h + 8, none), (h, some (7, h + 7)), (h + 7, none), (h, some (6, h + 6)), (h + 6, none), (h, some (5, h + 5)), (h + 5, none), (h, some (4, h + 4)), (h + 4, none), (h, some (3, h + 3)), (h + 3, none), (h, some (2, h + 2)), (h + 2, none), (h, some (1, h + 1)), (h + 1, none)]
set_option maxRecDepth 8192 in
theorem x4_i0 (f0 : pm_Λ[h]? = some (4 + 4, 13)) (f1 : pm_Λ[h + 1]? = some (0, 10)) (f2 : pm_Λ[h + 2]? = some (0, 10)) (f3 : pm_Λ[h + 3]? = some (0, 10)) (f4 : pm_Λ[h + 4]? = some (0, 40)) (f5 : pm_Λ[h + 5]? = some (0, 40)) (f6 : pm_Λ[h + 6]? = some (0, 40)) (f7 : pm_Λ[h + 7]? = some (0, 40)) (f8 : pm_Λ[h + 8]? = some (0, 40)) (f9 : pm_Λ[h + 9]? = some (0, 40)) (f10 : pm_Λ[h + 10]? = some (0, 320)) : f_X4_init h (qm (h + 1) u v) = some (qm (h + 11) (u4 h ++ u) (v4 h ++ v)) := by
  unfold f_X4_init
  simp (disch := omega) only [plit, pbs, plit, nI_add, Nat.reduceAdd, rl_hit, rl_m1, rl_m2, qm_newA (k := h + 1) (k' := h + 2) (m := nI 10) f1 rfl (by decide) rfl, qm_putR (a := h) (ci := 4) f0, qm_newA (k := h + 2) (k' := h + 3) (m := nI 10) f2 rfl (by decide) rfl, qm_newA (k := h + 3) (k' := h + 4) (m := nI 10) f3 rfl (by decide) rfl, qm_newA (k := h + 4) (k' := h + 5) (m := nI 40) f4 rfl (by decide) rfl, qm_newA (k := h + 5) (k' := h + 6) (m := nI 40) f5 rfl (by decide) rfl, qm_newA (k := h + 6) (k' := h + 7) (m := nI 40) f6 rfl (by decide) rfl, qm_newA (k := h + 7) (k' := h + 8) (m := nI 40) f7 rfl (by decide) rfl, qm_newA (k := h + 8) (k' := h + 9) (m := nI 40) f8 rfl (by decide) rfl, qm_newA (k := h + 9) (k' := h + 10) (m := nI 40) f9 rfl (by decide) rfl, qm_newA (k := h + 10) (k' := h + 11) (m := nI 320) f10 rfl (by decide) rfl, qm_putI (a := h) (ci := 4) f0, qm_getR (a := h) (ci := 4) f0, qm_iast (a := h + 1) (n := 10) f1 (by decide), qm_fill (a := h + 4) (n := 40) f4 (by decide), qm_fill (a := h + 10) (n := 320) f10 (by decide)]
  rfl
set_option maxRecDepth 8192 in
theorem x4_i (f : ∀ i, i < 11 → pm_Λ[h + i]? = pm_Λ[1 + i]?) (hk : k = h + 1) (hk' : k' = h + 11) : f_X4_init h (qm k u v) = some (qm k' (u4 h ++ u) (v4 h ++ v)) := by
  subst hk
  subst hk'
  exact x4_i0 (f 0 (by decide)) (f 1 (by decide)) (f 2 (by decide)) (f 3 (by decide)) (f 4 (by decide)) (f 5 (by decide)) (f 6 (by decide)) (f 7 (by decide)) (f 8 (by decide)) (f 9 (by decide)) (f 10 (by decide))
def u13 : List (Nat × ((Nat → Int32) → Nat → Int32)) := uc (16) :: (uc (15) :: (uc (14) :: ([])))
def v13 : List (Nat × Option (Nat × Nat)) := (13, some (2, 16)) :: ((16, none) :: ((13, some (1, 15)) :: ((15, none) :: ((13, some (0, 14)) :: ((14, none) :: ([]))))))
set_option maxRecDepth 8192 in
theorem i_u13 : f_X6_init 13 (qm 14 u v) = some (qm 17 (u13 ++ u) (v13 ++ v)) := by
  unfold f_X6_init
  simp (disch := omega) only [plit, pbs, plit, nI_add, Nat.reduceAdd, rl_hit, rl_m1, rl_m2, qm_newA (k := 14) (k' := 15) (m := nI 40) (show pm_Λ[14]? = some (0, 40) from rfl) rfl (by decide) rfl, qm_putR (a := 13) (ci := 6) (show pm_Λ[13]? = some (6 + 4, 5) from rfl), qm_newA (k := 15) (k' := 16) (m := nI 40) (show pm_Λ[15]? = some (0, 40) from rfl) rfl (by decide) rfl, qm_newA (k := 16) (k' := 17) (m := nI 40) (show pm_Λ[16]? = some (0, 40) from rfl) rfl (by decide) rfl]
  rfl
def u17 : List (Nat × ((Nat → Int32) → Nat → Int32)) := uc (20) :: (uc (19) :: (uc (18) :: ([])))
def v17 : List (Nat × Option (Nat × Nat)) := (17, some (2, 20)) :: ((20, none) :: ((17, some (1, 19)) :: ((19, none) :: ((17, some (0, 18)) :: ((18, none) :: ([]))))))
set_option maxRecDepth 8192 in
theorem i_u17 : f_X6_init 17 (qm 18 u v) = some (qm 21 (u17 ++ u) (v17 ++ v)) := by
  unfold f_X6_init
  simp (disch := omega) only [plit, pbs, plit, nI_add, Nat.reduceAdd, rl_hit, rl_m1, rl_m2, qm_newA (k := 18) (k' := 19) (m := nI 40) (show pm_Λ[18]? = some (0, 40) from rfl) rfl (by decide) rfl, qm_putR (a := 17) (ci := 6) (show pm_Λ[17]? = some (6 + 4, 5) from rfl), qm_newA (k := 19) (k' := 20) (m := nI 40) (show pm_Λ[19]? = some (0, 40) from rfl) rfl (by decide) rfl, qm_newA (k := 20) (k' := 21) (m := nI 40) (show pm_Λ[20]? = some (0, 40) from rfl) rfl (by decide) rfl]
  rfl
def u12 : List (Nat × ((Nat → Int32) → Nat → Int32)) := uq (12) 12 (-nI 1) :: (uc (28) :: (uc (27) :: (uc (26) :: (uc (25) :: (uc (24) :: (uc (23) :: (uc (22) :: (uc (21) :: (u17 ++ (uc (17) :: (u13 ++ (uc (13) :: ([])))))))))))))
def v12 : List (Nat × Option (Nat × Nat)) := (12, some (0, 1)) :: ((12, some (10, 28)) :: ((28, none) :: ((12, some (9, 27)) :: ((27, none) :: ((12, some (8, 26)) :: ((26, none) :: ((12, some (7, 25)) :: ((25, none) :: ((12, some (6, 24)) :: ((24, none) :: ((12, some (5, 23)) :: ((23, none) :: ((12, some (4, 22)) :: ((22, none) :: ((12, some (3, 21)) :: ((21, none) :: ((12, some (2, 17)) :: (v17 ++ ((17, none) :: ((12, some (1, 13)) :: (v13 ++ ((13, none) :: ([])))))))))))))))))))))))
set_option maxRecDepth 8192 in
theorem i_u12 : f_X0_init 12 1 (qm 13 u v) = some (qm 29 (u12 ++ u) (v12 ++ v)) := by
  unfold f_X0_init
  simp (disch := omega) only [plit, pbs, plit, nI_add, Nat.reduceAdd, rl_hit, rl_m1, rl_m2, qm_newO (k := 13) (k' := 14) (ci := 6) (show pm_Λ[13]? = some (6 + 4, 5) from rfl) rfl, i_u13, qm_putR (a := 12) (ci := 0) (show pm_Λ[12]? = some (0 + 4, 13) from rfl), qm_newO (k := 17) (k' := 18) (ci := 6) (show pm_Λ[17]? = some (6 + 4, 5) from rfl) rfl, i_u17, qm_newA (k := 21) (k' := 22) (m := nI 320) (show pm_Λ[21]? = some (0, 320) from rfl) rfl (by decide) rfl, qm_newA (k := 22) (k' := 23) (m := nI 40) (show pm_Λ[22]? = some (1, 40) from rfl) rfl (by decide) rfl, qm_newA (k := 23) (k' := 24) (m := nI 40) (show pm_Λ[23]? = some (0, 40) from rfl) rfl (by decide) rfl, qm_newA (k := 24) (k' := 25) (m := nI 40) (show pm_Λ[24]? = some (0, 40) from rfl) rfl (by decide) rfl, qm_newA (k := 25) (k' := 26) (m := nI 40) (show pm_Λ[25]? = some (0, 40) from rfl) rfl (by decide) rfl, qm_newA (k := 26) (k' := 27) (m := nI 40) (show pm_Λ[26]? = some (0, 40) from rfl) rfl (by decide) rfl, qm_newA (k := 27) (k' := 28) (m := nI 40) (show pm_Λ[27]? = some (1, 40) from rfl) rfl (by decide) rfl, qm_newA (k := 28) (k' := 29) (m := nI 40) (show pm_Λ[28]? = some (0, 40) from rfl) rfl (by decide) rfl, qm_putI (a := 12) (ci := 0) (show pm_Λ[12]? = some (0 + 4, 13) from rfl)]
  rfl
def u29 : List (Nat × ((Nat → Int32) → Nat → Int32)) := u4 86 ++ (uc (86) :: (u4 75 ++ (uc (75) :: (u4 64 ++ (uc (64) :: (u4 53 ++ (uc (53) :: (u4 42 ++ (uc (42) :: (u4 31 ++ (uc (31) :: (uc (30) :: ([])))))))))))))
def v29 : List (Nat × Option (Nat × Nat)) := (30, some (5, 86)) :: (v4 86 ++ ((86, none) :: ((30, some (4, 75)) :: (v4 75 ++ ((75, none) :: ((30, some (3, 64)) :: (v4 64 ++ ((64, none) :: ((30, some (2, 53)) :: (v4 53 ++ ((53, none) :: ((30, some (1, 42)) :: (v4 42 ++ ((42, none) :: ((30, some (0, 31)) :: (v4 31 ++ ((31, none) :: ((29, some (0, 30)) :: ((30, none) :: ([]))))))))))))))))))))
set_option maxRecDepth 8192 in
theorem i_u29 : f_X5_init 29 (qm 30 u v) = some (qm 97 (u29 ++ u) (v29 ++ v)) := by
  unfold f_X5_init
  simp (disch := omega) only [plit, pbs, plit, nI_add, Nat.reduceAdd, rl_hit, rl_m1, rl_m2, qm_newA (k := 30) (k' := 31) (m := nI 6) (show pm_Λ[30]? = some (3, 6) from rfl) rfl (by decide) rfl, qm_putR (a := 29) (ci := 5) (show pm_Λ[29]? = some (5 + 4, 2) from rfl), qm_getR (a := 29) (ci := 5) (show pm_Λ[29]? = some (5 + 4, 2) from rfl), qm_newO (k := 31) (k' := 32) (ci := 4) (show pm_Λ[31]? = some (4 + 4, 13) from rfl) rfl, x4_i (h := 31) (k := 32) (k' := 42) (by decide +kernel) rfl rfl, qm_aast (a := 30) (b := 31) (show pm_Λ[30]? = some (3, 6) from rfl) (show pm_Λ[31]? = some (8, 13) from rfl) (by decide), rl_ap (l := v4 31) (a := 29) (by decide), qm_newO (k := 42) (k' := 43) (ci := 4) (show pm_Λ[42]? = some (4 + 4, 13) from rfl) rfl, x4_i (h := 42) (k := 43) (k' := 53) (by decide +kernel) rfl rfl, qm_aast (a := 30) (b := 42) (show pm_Λ[30]? = some (3, 6) from rfl) (show pm_Λ[42]? = some (8, 13) from rfl) (by decide), rl_ap (l := v4 42) (a := 29) (by decide), qm_newO (k := 53) (k' := 54) (ci := 4) (show pm_Λ[53]? = some (4 + 4, 13) from rfl) rfl, x4_i (h := 53) (k := 54) (k' := 64) (by decide +kernel) rfl rfl, qm_aast (a := 30) (b := 53) (show pm_Λ[30]? = some (3, 6) from rfl) (show pm_Λ[53]? = some (8, 13) from rfl) (by decide), rl_ap (l := v4 53) (a := 29) (by decide), qm_newO (k := 64) (k' := 65) (ci := 4) (show pm_Λ[64]? = some (4 + 4, 13) from rfl) rfl, x4_i (h := 64) (k := 65) (k' := 75) (by decide +kernel) rfl rfl, qm_aast (a := 30) (b := 64) (show pm_Λ[30]? = some (3, 6) from rfl) (show pm_Λ[64]? = some (8, 13) from rfl) (by decide), rl_ap (l := v4 64) (a := 29) (by decide), qm_newO (k := 75) (k' := 76) (ci := 4) (show pm_Λ[75]? = some (4 + 4, 13) from rfl) rfl, x4_i (h := 75) (k := 76) (k' := 86) (by decide +kernel) rfl rfl, qm_aast (a := 30) (b := 75) (show pm_Λ[30]? = some (3, 6) from rfl) (show pm_Λ[75]? = some (8, 13) from rfl) (by decide), rl_ap (l := v4 75) (a := 29) (by decide), qm_newO (k := 86) (k' := 87) (ci := 4) (show pm_Λ[86]? = some (4 + 4, 13) from rfl) rfl, x4_i (h := 86) (k := 87) (k' := 97) (by decide +kernel) rfl rfl, qm_aast (a := 30) (b := 86) (show pm_Λ[30]? = some (3, 6) from rfl) (show pm_Λ[86]? = some (8, 13) from rfl) (by decide)]
  rfl
def u97 : List (Nat × ((Nat → Int32) → Nat → Int32)) := uc (98) :: ([])
def v97 : List (Nat × Option (Nat × Nat)) := (97, some (0, 98)) :: ((98, none) :: ([]))
set_option maxRecDepth 8192 in
theorem i_u97 : f_X7_init 97 (qm 98 u v) = some (qm 99 (u97 ++ u) (v97 ++ v)) := by
  unfold f_X7_init
  simp (disch := omega) only [plit, pbs, plit, nI_add, Nat.reduceAdd, rl_hit, rl_m1, rl_m2, qm_newA (k := 98) (k' := 99) (m := nI 100) (show pm_Λ[98]? = some (0, 100) from rfl) rfl (by decide) rfl, qm_putR (a := 97) (ci := 7) (show pm_Λ[97]? = some (7 + 4, 4) from rfl)]
  rfl
def u99 : List (Nat × ((Nat → Int32) → Nat → Int32)) := []
def v99 : List (Nat × Option (Nat × Nat)) := (99, some (2, 97)) :: ((99, some (1, 12)) :: ((99, some (0, 1)) :: ([])))
set_option maxRecDepth 8192 in
theorem i_u99 : f_X3_init 99 1 12 97 (qm 100 u v) = some (qm 100 (u99 ++ u) (v99 ++ v)) := by
  unfold f_X3_init
  simp (disch := omega) only [plit, pbs, plit, nI_add, Nat.reduceAdd, rl_hit, rl_m1, rl_m2, qm_putR (a := 99) (ci := 3) (show pm_Λ[99]? = some (3 + 4, 3) from rfl)]
  rfl
def u100 : List (Nat × ((Nat → Int32) → Nat → Int32)) := uc (104) :: (uc (103) :: (uc (102) :: (uc (101) :: ([]))))
def v100 : List (Nat × Option (Nat × Nat)) := (100, some (2, 97)) :: ((100, some (1, 12)) :: ((100, some (0, 1)) :: ((100, some (6, 104)) :: ((104, none) :: ((100, some (5, 103)) :: ((103, none) :: ((100, some (4, 102)) :: ((102, none) :: ((100, some (3, 101)) :: ((101, none) :: ([])))))))))))
set_option maxRecDepth 8192 in
theorem i_u100 : f_X1_init 100 1 12 97 (qm 101 u v) = some (qm 105 (u100 ++ u) (v100 ++ v)) := by
  unfold f_X1_init
  simp (disch := omega) only [plit, pbs, plit, nI_add, Nat.reduceAdd, rl_hit, rl_m1, rl_m2, qm_newA (k := 101) (k' := 102) (m := nI 100) (show pm_Λ[101]? = some (0, 100) from rfl) rfl (by decide) rfl, qm_putR (a := 100) (ci := 1) (show pm_Λ[100]? = some (1 + 4, 8) from rfl), qm_newA (k := 102) (k' := 103) (m := nI 100) (show pm_Λ[102]? = some (0, 100) from rfl) rfl (by decide) rfl, qm_newA (k := 103) (k' := 104) (m := nI 100) (show pm_Λ[103]? = some (0, 100) from rfl) rfl (by decide) rfl, qm_newA (k := 104) (k' := 105) (m := nI 100) (show pm_Λ[104]? = some (0, 100) from rfl) rfl (by decide) rfl]
  rfl
def u0 : List (Nat × ((Nat → Int32) → Nat → Int32)) := uc (129) :: (u4 118 ++ (uc (118) :: (u4 107 ++ (uc (107) :: (uc (106) :: (uc (105) :: (u100 ++ (uc (100) :: (u99 ++ (uc (99) :: (u97 ++ (uc (97) :: (u29 ++ (uc (29) :: (u12 ++ (uc (12) :: (u4 1 ++ (uc (1) :: ([])))))))))))))))))))
def v0 : List (Nat × Option (Nat × Nat)) := (0, some (8, 129)) :: ((129, none) :: ((106, some (1, 118)) :: (v4 118 ++ ((118, none) :: ((106, some (0, 107)) :: (v4 107 ++ ((107, none) :: ((0, some (7, 106)) :: ((106, none) :: ((0, some (6, 105)) :: ((105, none) :: ((0, some (5, 100)) :: (v100 ++ ((100, none) :: ((0, some (4, 99)) :: (v99 ++ ((99, none) :: ((0, some (3, 97)) :: (v97 ++ ((97, none) :: ((0, some (2, 29)) :: (v29 ++ ((29, none) :: ((0, some (1, 12)) :: (v12 ++ ((12, none) :: ((0, some (0, 1)) :: (v4 1 ++ ((1, none) :: ([]))))))))))))))))))))))))))))))
set_option maxRecDepth 8192 in
theorem i_u0 : f_X8_init 0 (qm 1 u v) = some (qm 130 (u0 ++ u) (v0 ++ v)) := by
  unfold f_X8_init
  simp (disch := omega) only [f_X2_init, pbs, plit, nI_add, Nat.reduceAdd, rl_hit, rl_m1, rl_m2, qm_newO (k := 1) (k' := 2) (ci := 4) (show pm_Λ[1]? = some (4 + 4, 13) from rfl) rfl, x4_i (h := 1) (k := 2) (k' := 12) (by decide +kernel) rfl rfl, qm_putR (a := 0) (ci := 8) (show pm_Λ[0]? = some (8 + 4, 9) from rfl), qm_newO (k := 12) (k' := 13) (ci := 0) (show pm_Λ[12]? = some (0 + 4, 13) from rfl) rfl, qm_getR (a := 0) (ci := 8) (show pm_Λ[0]? = some (8 + 4, 9) from rfl), rl_ap (l := v4 1) (a := 0) (by decide), i_u12, qm_newO (k := 29) (k' := 30) (ci := 5) (show pm_Λ[29]? = some (5 + 4, 2) from rfl) rfl, i_u29, qm_newO (k := 97) (k' := 98) (ci := 7) (show pm_Λ[97]? = some (7 + 4, 4) from rfl) rfl, i_u97, qm_newO (k := 99) (k' := 100) (ci := 3) (show pm_Λ[99]? = some (3 + 4, 3) from rfl) rfl, rl_ap (l := v12) (a := 0) (by decide), rl_ap (l := v29) (a := 0) (by decide), rl_ap (l := v97) (a := 0) (by decide), i_u99, qm_newO (k := 100) (k' := 101) (ci := 1) (show pm_Λ[100]? = some (1 + 4, 8) from rfl) rfl, rl_ap (l := v99) (a := 0) (by decide), i_u100, qm_newO (k := 105) (k' := 106) (ci := 2) (show pm_Λ[105]? = some (2 + 4, 1) from rfl) rfl, qm_newA (k := 106) (k' := 107) (m := nI 2) (show pm_Λ[106]? = some (3, 2) from rfl) rfl (by decide) rfl, rl_ap (l := v100) (a := 0) (by decide), qm_newO (k := 107) (k' := 108) (ci := 4) (show pm_Λ[107]? = some (4 + 4, 13) from rfl) rfl, x4_i (h := 107) (k := 108) (k' := 118) (by decide +kernel) rfl rfl, qm_aast (a := 106) (b := 107) (show pm_Λ[106]? = some (3, 2) from rfl) (show pm_Λ[107]? = some (8, 13) from rfl) (by decide), rl_ap (l := v4 107) (a := 0) (by decide), qm_newO (k := 118) (k' := 119) (ci := 4) (show pm_Λ[118]? = some (4 + 4, 13) from rfl) rfl, x4_i (h := 118) (k := 119) (k' := 129) (by decide +kernel) rfl rfl, qm_aast (a := 106) (b := 118) (show pm_Λ[106]? = some (3, 2) from rfl) (show pm_Λ[118]? = some (8, 13) from rfl) (by decide), qm_newA (k := 129) (k' := 130) (m := nI 2) (show pm_Λ[129]? = some (2, 2) from rfl) rfl (by decide) rfl]
  rfl
def u130 : List (Nat × ((Nat → Int32) → Nat → Int32)) := uq (131) 31 (nI 1) :: (uq (131) 1 (-nI 1) :: (uq (131) 0 (nI 1) :: (uc (147) :: (uc (146) :: (uc (145) :: (uc (144) :: (uc (143) :: (uc (142) :: (uc (141) :: (uc (140) :: (uc (139) :: (uc (138) :: (uc (137) :: (uc (136) :: (uc (135) :: (uc (134) :: (uc (133) :: (uc (132) :: (uc (131) :: ([]))))))))))))))))))))
def v130 : List (Nat × Option (Nat × Nat)) := (130, some (25, 147)) :: ((147, none) :: ((130, some (23, 146)) :: ((146, none) :: ((130, some (20, 145)) :: ((145, none) :: ((130, some (18, 144)) :: ((144, none) :: ((130, some (17, 143)) :: ((143, none) :: ((130, some (16, 142)) :: ((142, none) :: ((130, some (15, 141)) :: ((141, none) :: ((130, some (14, 140)) :: ((140, none) :: ((130, some (13, 139)) :: ((139, none) :: ((130, some (12, 138)) :: ((138, none) :: ((130, some (9, 137)) :: ((137, none) :: ((130, some (8, 136)) :: ((136, none) :: ((130, some (7, 135)) :: ((135, none) :: ((130, some (5, 134)) :: ((134, none) :: ((130, some (2, 133)) :: ((133, none) :: ((130, some (1, 132)) :: ((132, none) :: ((130, some (0, 131)) :: ((131, none) :: ([]))))))))))))))))))))))))))))))))))
set_option maxRecDepth 8192 in
theorem i_u130 : f_X9_init 130 (qm 131 u v) = some (qm 148 (u130 ++ u) (v130 ++ v)) := by
  unfold f_X9_init
  simp (disch := omega) only [plit, pbs, plit, nI_add, Nat.reduceAdd, rl_hit, rl_m1, rl_m2, qm_newA (k := 131) (k' := 132) (m := nI 552) (show pm_Λ[131]? = some (0, 552) from rfl) rfl (by decide) rfl, qm_putR (a := 130) (ci := 9) (show pm_Λ[130]? = some (9 + 4, 29) from rfl), qm_newA (k := 132) (k' := 133) (m := nI 2760) (show pm_Λ[132]? = some (0, 2760) from rfl) rfl (by decide) rfl, qm_newA (k := 133) (k' := 134) (m := nI 552) (show pm_Λ[133]? = some (0, 552) from rfl) rfl (by decide) rfl, qm_newA (k := 134) (k' := 135) (m := nI 100) (show pm_Λ[134]? = some (0, 100) from rfl) rfl (by decide) rfl, qm_newA (k := 135) (k' := 136) (m := nI 1040) (show pm_Λ[135]? = some (0, 1040) from rfl) rfl (by decide) rfl, qm_newA (k := 136) (k' := 137) (m := nI 2) (show pm_Λ[136]? = some (0, 2) from rfl) rfl (by decide) rfl, qm_newA (k := 137) (k' := 138) (m := nI 2) (show pm_Λ[137]? = some (0, 2) from rfl) rfl (by decide) rfl, qm_newA (k := 138) (k' := 139) (m := nI 40) (show pm_Λ[138]? = some (1, 40) from rfl) rfl (by decide) rfl, qm_newA (k := 139) (k' := 140) (m := nI 40) (show pm_Λ[139]? = some (0, 40) from rfl) rfl (by decide) rfl, qm_newA (k := 140) (k' := 141) (m := nI 41) (show pm_Λ[140]? = some (1, 41) from rfl) rfl (by decide) rfl, qm_newA (k := 141) (k' := 142) (m := nI 40) (show pm_Λ[141]? = some (1, 40) from rfl) rfl (by decide) rfl, qm_newA (k := 142) (k' := 143) (m := nI 100) (show pm_Λ[142]? = some (0, 100) from rfl) rfl (by decide) rfl, qm_newA (k := 143) (k' := 144) (m := nI 100) (show pm_Λ[143]? = some (0, 100) from rfl) rfl (by decide) rfl, qm_newA (k := 144) (k' := 145) (m := nI 100) (show pm_Λ[144]? = some (0, 100) from rfl) rfl (by decide) rfl, qm_newA (k := 145) (k' := 146) (m := nI 100) (show pm_Λ[145]? = some (0, 100) from rfl) rfl (by decide) rfl, qm_newA (k := 146) (k' := 147) (m := nI 100) (show pm_Λ[146]? = some (2, 100) from rfl) rfl (by decide) rfl, qm_newA (k := 147) (k' := 148) (m := nI 400) (show pm_Λ[147]? = some (0, 400) from rfl) rfl (by decide) rfl, qm_getR (a := 130) (ci := 9) (show pm_Λ[130]? = some (9 + 4, 29) from rfl), qm_iast (a := 131) (n := 552) (show pm_Λ[131]? = some (0, 552) from rfl) (by decide)]
  rfl
def uA : List (Nat × ((Nat → Int32) → Nat → Int32)) := uc 148 :: (u130 ++ (uc 130 :: (u0 ++ [uc 0])))
def vA : List (Nat × Option (Nat × Nat)) := (148, none) :: (v130 ++ ((130, none) :: (v0 ++ [(0, none)])))
def hb_z0 : hb_M := ([], fun _ _ => 0, fun _ _ => 0, fun _ _ => none)
set_option maxRecDepth 8192 in
theorem z0_eq : hb_z0 = qm 0 [] [] := rfl
set_option maxRecDepth 8192 in
theorem law_st (L : Nat) (xs : Nat → Int32) : f_L_law L xs hb_z0 = f_L_law_b23 L xs 600 0 130 148 (nI 0) (qm 149 uA vA) := by
  unfold f_L_law
  rw [z0_eq]
  simp only [qm_newO (k := 0) (k' := 1) (ci := 8) (n := 9) (show pm_Λ[0]? = some (8 + 4, 9) from rfl) rfl, pbs, i_u0, qm_newO (k := 130) (k' := 131) (ci := 9) (n := 29) (show pm_Λ[130]? = some (9 + 4, 29) from rfl) rfl, i_u130, qm_newA (k := 148) (k' := 149) (m := 1) (n := 1) (show pm_Λ[148]? = some (1, 1) from rfl) rfl (by decide) rfl]
  rfl
set_option maxRecDepth 8192 in
theorem rl_out {N : Nat} : ∀ {v : List (Nat × Option (Nat × Nat))}, v.all (fun e => decide (e.1 < N)) = true → N ≤ a → rl v a j = none
  | [], _, _ => rfl
  | (c, q) :: v, h, ha => by
    simp only [List.all_cons, Bool.and_eq_true, decide_eq_true_eq] at h
    rw [rl_m1 (by omega)]
    exact rl_out h.2 ha
def rl_kb (N : Nat) (e : Nat × Option (Nat × Nat)) : Bool := match e.2 with
  | none => true
  | some q => decide (q.1 < N)
set_option maxRecDepth 8192 in
theorem rl_out2 {N : Nat} : ∀ {v : List (Nat × Option (Nat × Nat))}, v.all (rl_kb N) = true → N ≤ j → rl v a j = none
  | [], _, _ => rfl
  | (c, none) :: v, h, hj => by
    simp only [List.all_cons, Bool.and_eq_true] at h
    by_cases e : c = a
    · subst e
      simp [rl, va_up]
    · rw [rl_m1 e]
      exact rl_out2 h.2 hj
  | (c, some (i, b)) :: v, h, hj => by
    simp only [List.all_cons, Bool.and_eq_true] at h
    have h1 : i < N := of_decide_eq_true h.1
    by_cases e : c = a
    · rw [e, rl_m2 (by omega)]
      exact rl_out2 h.2 hj
    · rw [rl_m1 e]
      exact rl_out2 h.2 hj
set_option maxRecDepth 8192 in
theorem vA_1 : vA.all (fun e => decide (e.1 < 149)) = true := by decide +kernel
set_option maxRecDepth 8192 in
theorem vA_2 : vA.all (rl_kb 30) = true := by decide +kernel
set_option maxRecDepth 8192 in
theorem rl_fl : ∀ (v : List (Nat × Option (Nat × Nat))), rl v a j = rl (v.filter (fun e => e.1 == a)) a j
  | [] => rfl
  | (c, q) :: v => by
    have ih := rl_fl v
    by_cases e : c = a
    · rw [List.filter_cons_of_pos (by simp [e]), e]
      match q with
      | none => simp [rl, va_up]
      | some (i, b) =>
        by_cases e2 : i = j
        · rw [e2, rl_hit, rl_hit]
        · rw [rl_m2 e2, rl_m2 e2]
          exact ih
    · rw [List.filter_cons_of_neg (by simp [e]), rl_m1 e]
      exact ih
set_option maxRecDepth 8192 in
theorem vA_30 : ∀ i, i < 30 → 0 + i ≠ 30 → ∀ j, j < 30 → rl (vA.filter (fun e => e.1 == 0 + i)) (0 + i) j = (pm_Rt.getD (0 + i) []).getD j none := by decide +kernel
set_option maxRecDepth 8192 in
theorem vA_31 : ∀ i, i < 30 → 30 + i ≠ 30 → ∀ j, j < 30 → rl (vA.filter (fun e => e.1 == 30 + i)) (30 + i) j = (pm_Rt.getD (30 + i) []).getD j none := by decide +kernel
set_option maxRecDepth 8192 in
theorem vA_32 : ∀ i, i < 30 → 60 + i ≠ 30 → ∀ j, j < 30 → rl (vA.filter (fun e => e.1 == 60 + i)) (60 + i) j = (pm_Rt.getD (60 + i) []).getD j none := by decide +kernel
set_option maxRecDepth 8192 in
theorem vA_33 : ∀ i, i < 30 → 90 + i ≠ 30 → ∀ j, j < 30 → rl (vA.filter (fun e => e.1 == 90 + i)) (90 + i) j = (pm_Rt.getD (90 + i) []).getD j none := by decide +kernel
set_option maxRecDepth 8192 in
theorem vA_34 : ∀ i, i < 30 → 120 + i ≠ 30 → ∀ j, j < 30 → rl (vA.filter (fun e => e.1 == 120 + i)) (120 + i) j = (pm_Rt.getD (120 + i) []).getD j none := by decide +kernel
set_option maxRecDepth 8192 in
theorem vA_3 : ∀ a, a < 149 → a ≠ 30 → ∀ j, j < 30 → rl vA a j = (pm_Rt.getD a []).getD j none := by
  intro a ha h30 j hj
  rw [rl_fl]
  by_cases h0 : a < 30
  · have := vA_30 a h0
    rw [Nat.zero_add] at this
    exact this h30 j hj
  by_cases h1 : a < 60
  · obtain ⟨i, rfl⟩ : ∃ i, a = 30 + i := ⟨a - 30, by omega⟩
    exact vA_31 i (by omega) h30 j hj
  by_cases h2 : a < 90
  · obtain ⟨i, rfl⟩ : ∃ i, a = 60 + i := ⟨a - 60, by omega⟩
    exact vA_32 i (by omega) h30 j hj
  by_cases h3 : a < 120
  · obtain ⟨i, rfl⟩ : ∃ i, a = 90 + i := ⟨a - 90, by omega⟩
    exact vA_33 i (by omega) h30 j hj
  obtain ⟨i, rfl⟩ : ∃ i, a = 120 + i := ⟨a - 120, by omega⟩
  exact vA_34 i (by omega) h30 j hj
set_option maxRecDepth 8192 in
theorem Rt_len : ∀ a, a < 149 → (pm_Rt.getD a []).length ≤ 30 := by decide +kernel
set_option maxRecDepth 8192 in
theorem Rt_end : pm_Rt.length = 149 := by decide +kernel
set_option maxRecDepth 8192 in
theorem rl_pm : rl vA = pm_R (rl vA 30) := by
  funext a j
  unfold pm_R
  by_cases e : a = 30
  · rw [if_pos e, e]
  · rw [if_neg e]
    by_cases ha : a < 149
    · by_cases hj : j < 30
      · exact vA_3 a ha e j hj
      · have h1 := Rt_len a ha
        rw [rl_out2 vA_2 (by omega), List.getD_eq_getElem?_getD, List.getElem?_eq_none (by omega)]
        rfl
    · have h1 := Rt_end
      rw [rl_out vA_1 (by omega), List.getD_eq_getElem?_getD (l := pm_Rt), List.getElem?_eq_none (l := pm_Rt) (by omega)]
      rfl
set_option maxRecDepth 8192 in
theorem start_pm : qm 149 uA vA = pm (dl uA) (fun _ _ => 0) (rl vA 30) := by
  unfold qm pm
  rw [← rl_pm]
  rfl
end START
