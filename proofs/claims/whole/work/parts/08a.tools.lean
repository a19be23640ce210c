/-! pure tools: numbers -/
theorem k32 {x y : Int32} (h : x.toInt = y.toInt) : x = y := Int32.toInt_inj.mp h
theorem k64 {x y : Int64} (h : x.toInt = y.toInt) : x = y := Int64.toInt_inj.mp h
theorem t64 (x : Int32) : (Int32.toInt64 x).toInt = x.toInt := Int32.toInt_toInt64 x
theorem t6432 (x : Int32) : Int64.toInt32 (Int32.toInt64 x) = x := by
  first
    | exact Int32.toInt32_toInt64 x
    | simp
theorem lc_lt (x y : Int64) : (lg_cmp x y < 0) ↔ x.toInt < y.toInt := by rw [lg_cmp_lt, Int64.lt_iff_toInt_lt]
theorem lc_ge (x y : Int64) : (0 ≤ lg_cmp x y) ↔ y.toInt ≤ x.toInt := by rw [lg_cmp_ge, Int64.le_iff_toInt_le]
theorem lc_le (x y : Int64) : (lg_cmp x y ≤ 0) ↔ x.toInt ≤ y.toInt := by rw [lg_cmp_le, Int64.le_iff_toInt_le]
theorem lc_gt (x y : Int64) : (0 < lg_cmp x y) ↔ y.toInt < x.toInt := by rw [lg_cmp_gt, Int64.lt_iff_toInt_lt]
theorem lc_eq (x y : Int64) : (lg_cmp x y = 0) ↔ x = y := lg_cmp_eq x y
theorem ib_n {a N : Nat} (h : a < N) (hN : N < 2 ^ 31) : ib (nI a) N = true := by
  unfold ib
  rw [nI_clamp (by omega)]
  have : ¬ nI a < 0 := nI_pos (by omega)
  simp [this]
  omega
theorem n0 : (0 : Int32) = nI 0 := rfl
theorem n1 : (1 : Int32) = nI 1 := rfl
theorem n2 : (2 : Int32) = nI 2 := rfl
theorem n3 : (3 : Int32) = nI 3 := rfl
theorem n6 : (6 : Int32) = nI 6 := rfl
theorem n12 : (12 : Int32) = nI 12 := rfl
theorem n84 : (84 : Int32) = nI 84 := rfl
theorem n157 : (157 : Int32) = nI 157 := rfl
theorem n172 : (172 : Int32) = nI 172 := rfl
theorem n180 : (180 : Int32) = nI 180 := rfl
theorem n540 : (540 : Int32) = nI 540 := rfl
/-- an int that is not negative and below N is a natural number -/
theorem inN {x : Int32} {N : Nat} (h : 0 ≤ x.toInt) (h2 : x.toInt < N) : ∃ n : Nat, n < N ∧ x = nI n := by
  have hb := Int32.toInt_lt x
  refine ⟨x.toInt.toNat, by omega, k32 ?_⟩
  rw [nI_toInt (by omega)]
  omega
theorem nT {n : Nat} (h : n < 2 ^ 31) : (nI n).toInt = (n : Int) := nI_toInt h
theorem nJ64 {n : Nat} (h : n < 2 ^ 31) : (Int32.toInt64 (nI n)).toInt = (n : Int) := by rw [t64, nI_toInt h]
/-- the sign of a comparison as an answer -/
theorem lt32 (x y : Int32) : x < y ↔ x.toInt < y.toInt := Int32.lt_iff_toInt_lt
theorem le32 (x y : Int32) : x ≤ y ↔ x.toInt ≤ y.toInt := Int32.le_iff_toInt_le
theorem eq32 (x y : Int32) : x = y ↔ x.toInt = y.toInt := Int32.toInt_inj.symm
/-! the leaves -/
theorem isIn_v (x a b : Int32) : f_X5_isIn x a b = some (if a.toInt ≤ x.toInt ∧ x.toInt ≤ b.toInt then 1 else 0) := by
  unfold f_X5_isIn
  simp only [lt32]
  by_cases h1 : x.toInt < a.toInt
  · rw [if_pos h1, if_neg (by omega)]
  · rw [if_neg h1]
    by_cases h2 : b.toInt < x.toInt
    · rw [if_pos h2, if_neg (by omega)]
    · rw [if_neg h2, if_pos (by omega)]
theorem in_v (x a b : Int64) : f_X6_in x a b = some (if a.toInt ≤ x.toInt ∧ x.toInt ≤ b.toInt then 1 else 0) := by
  unfold f_X6_in
  simp only [lc_lt, lc_gt]
  by_cases h1 : x.toInt < a.toInt
  · rw [if_pos h1, if_neg (by omega)]
  · rw [if_neg h1]
    by_cases h2 : b.toInt < x.toInt
    · rw [if_pos h2, if_neg (by omega)]
    · rw [if_neg h2, if_pos (by omega)]
theorem isSlot_v (x : Int32) : f_X5_isSlot x = some (if 0 ≤ x.toInt ∧ x.toInt < 6 then 1 else 0) := by
  unfold f_X5_isSlot
  simp only [lt32, le32]
  have e0 : (0 : Int32).toInt = 0 := rfl
  have e6 : (6 : Int32).toInt = 6 := rfl
  rw [e0, e6]
  by_cases h1 : x.toInt < 0
  · rw [if_pos h1, if_neg (by omega)]
  · rw [if_neg h1]
    by_cases h2 : 6 ≤ x.toInt
    · rw [if_pos h2, if_neg (by omega)]
    · rw [if_neg h2, if_pos (by omega)]
theorem isSlotM_v (x : Int32) : f_X6_isSlot x = some (if 0 ≤ x.toInt ∧ x.toInt < 6 then 1 else 0) := by
  unfold f_X6_isSlot
  rw [in_v, t64]
  have e0 : (0 : Int64).toInt = 0 := rfl
  have e5 : (5 : Int64).toInt = 5 := rfl
  rw [e0, e5]
  by_cases h : 0 ≤ x.toInt ∧ x.toInt < 6
  · rw [if_pos h, if_pos (by omega)]; rfl
  · rw [if_neg h, if_neg (by omega)]; rfl
theorem kindOf_n {f : Nat → Int32} {s : Nat} (h : s < 6) : f_X0_kindOf f (nI s) = some (f s) := by
  unfold f_X0_kindOf
  rw [if_neg (nI_pos (by omega)), n6, if_neg (by rw [nI_leI (by omega) (by omega)]; omega), if_pos (ib_n h (by decide)), nI_clamp (by omega)]
theorem sizeOf_n {f : Nat → Int32} {s : Nat} (h : s < 6) : f_X0_sizeOf f (nI s) = some (f s) := by
  unfold f_X0_sizeOf
  rw [if_neg (nI_pos (by omega)), n6, if_neg (by rw [nI_leI (by omega) (by omega)]; omega), if_pos (ib_n h (by decide)), nI_clamp (by omega)]
theorem holds_n {f : Nat → Int32} {s : Nat} (h : s < 6) : f_X0_holdsArray f (nI s) = some (if (f s).toInt ≤ 11 then 1 else 0) := by
  unfold f_X0_holdsArray
  rw [kindOf_n h]
  show (if 11 < f s then some 0 else some 1) = _
  simp only [lt32]
  have e : (11 : Int32).toInt = 11 := rfl
  rw [e]
  by_cases h1 : (f s).toInt ≤ 11
  · rw [if_neg (by omega), if_pos h1]
  · rw [if_pos (by omega), if_neg h1]
