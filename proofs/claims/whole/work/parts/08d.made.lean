/-! values as they are made -/
theorem j8 (v : Int64) : (Int32.toInt64 (Int8.toInt32 (Int32.toInt8 (Int64.toInt32 v)))).toInt = (v.toInt.bmod (2 ^ 32)).bmod (2 ^ 8) := by
  rw [t64, Int8.toInt_toInt32, Int32.toInt_toInt8, Int64.toInt_toInt32]
theorem j16 (v : Int64) : (Int32.toInt64 (Int16.toInt32 (Int32.toInt16 (Int64.toInt32 v)))).toInt = (v.toInt.bmod (2 ^ 32)).bmod (2 ^ 16) := by
  rw [t64, Int16.toInt_toInt32, Int32.toInt_toInt16, Int64.toInt_toInt32]
theorem j32 (v : Int64) : (Int32.toInt64 (Int64.toInt32 v)).toInt = v.toInt.bmod (2 ^ 32) := by
  rw [t64, Int64.toInt_toInt32]
theorem jc (v : Int64) : (Int32.toInt64 (UInt32.toInt32 (Int32.toUInt32 (Int64.toInt32 v) % 65536))).toInt = v.toInt % 65536 := by
  rw [t64, pk_char, nI_toInt (by omega)]
  have h1 : ((Int64.toInt32 v).toBitVec.toNat : Int) = v.toInt % 2 ^ 32 := by
    have : (Int64.toInt32 v).toInt = v.toInt.bmod (2 ^ 32) := Int64.toInt_toInt32 v
    have h2 : (Int64.toInt32 v).toInt = ((Int64.toInt32 v).toBitVec.toNat : Int).bmod (2 ^ 32) := BitVec.toInt_eq_toNat_bmod _
    have h3 : (Int64.toInt32 v).toBitVec.toNat < 2 ^ 32 := BitVec.isLt _
    rw [h2] at this
    rw [Int.bmod_def, Int.bmod_def] at this
    omega
  omega
theorem jm (v : Int64) : (v &&& (65535 : Int64)).toInt = v.toInt % 65536 := by
  have h1 : (v &&& (65535 : Int64)).toBitVec = v.toBitVec &&& 65535#64 := rfl
  have h2 : (v &&& (65535 : Int64)).toBitVec.toNat = v.toBitVec.toNat % 65536 := by
    rw [h1, BitVec.toNat_and, show (65535#64).toNat = 2 ^ 16 - 1 from rfl, Nat.and_two_pow_sub_one_eq_mod]
  have h3 : (v &&& (65535 : Int64)).toInt = ((v &&& (65535 : Int64)).toBitVec.toNat : Int).bmod (2 ^ 64) := BitVec.toInt_eq_toNat_bmod _
  have h4 : v.toInt = (v.toBitVec.toNat : Int).bmod (2 ^ 64) := BitVec.toInt_eq_toNat_bmod _
  have h5 : v.toBitVec.toNat < 2 ^ 64 := BitVec.isLt _
  rw [h3, h4, h2, Int.bmod_def, Int.bmod_def]
  omega
/-- the number that is made -/
noncomputable def mk (a : Nat) (v : Int64) : Int64 := (f_X5_made (nI a) v).getD 0
theorem made_s (a : Nat) (v : Int64) : f_X5_made (nI a) v = some (mk a v) := by
  unfold mk f_X5_made
  by_cases h0 : nI a = 0
  · rw [if_pos h0]
    by_cases h : lg_cmp v 0 = 0
    · rw [if_pos h]; rfl
    · rw [if_neg h]; rfl
  rw [if_neg h0]
  by_cases h1 : nI a = 1
  · rw [if_pos h1]; rfl
  rw [if_neg h1]
  by_cases h2 : nI a = 2
  · rw [if_pos h2]; rfl
  rw [if_neg h2]
  by_cases h3 : nI a = 3
  · rw [if_pos h3]; rfl
  rw [if_neg h3]
  by_cases h4 : nI a = 4
  · rw [if_pos h4]; rfl
  rw [if_neg h4]
  by_cases h5 : nI a = 5
  · rw [if_pos h5]; rfl
  rw [if_neg h5]
  by_cases h6 : nI a = 6
  · rw [if_pos h6]; rfl
  rw [if_neg h6]
  by_cases h7 : nI a = 7
  · rw [if_pos h7]; rfl
  rw [if_neg h7]
  by_cases h8 : nI a = 8
  · rw [if_pos h8]; rfl
  rw [if_neg h8]
  by_cases h9 : nI a = 9
  · rw [if_pos h9]; rfl
  rw [if_neg h9]
  rfl
theorem mk0 (v : Int64) : mk 0 v = if v = 0 then 0 else 1 := by
  show (if lg_cmp v 0 = 0 then some (0 : Int64) else some 1).getD 0 = _
  simp only [lc_eq]
  by_cases h : v = 0
  · rw [if_pos h, if_pos h]; rfl
  · rw [if_neg h, if_neg h]; rfl
theorem mk1 (v : Int64) : mk 1 v = (Int32.toInt64 (Int8.toInt32 (Int32.toInt8 (Int64.toInt32 v)))) := rfl
theorem mk2 (v : Int64) : mk 2 v = (Int32.toInt64 (UInt32.toInt32 (Int32.toUInt32 (Int64.toInt32 v) % 65536))) := rfl
theorem mk3 (v : Int64) : mk 3 v = (Int32.toInt64 (Int16.toInt32 (Int32.toInt16 (Int64.toInt32 v)))) := rfl
theorem mk4 (v : Int64) : mk 4 v = (Int32.toInt64 (Int64.toInt32 v)) := rfl
theorem mk5 (v : Int64) : mk 5 v = v := rfl
theorem mk6 (v : Int64) : mk 6 v = FP.f2l (FP.l2f v) := rfl
theorem mk7 (v : Int64) : mk 7 v = FP.d2l (FP.l2d v) := rfl
theorem mk8 (v : Int64) : mk 8 v = v := rfl
theorem mk9 (v : Int64) : mk 9 v = 0 := rfl
theorem ok_of {a : Nat} {v : Int64} (ha : a < 10) (h0 : a = 0 → v = 0 ∨ v = 1) (h1 : a = 1 → -128 ≤ v.toInt ∧ v.toInt ≤ 127) (h2 : a = 2 → 0 ≤ v.toInt ∧ v.toInt ≤ 65535) (h3 : a = 3 → -32768 ≤ v.toInt ∧ v.toInt ≤ 32767) (h4 : a = 4 → -2147483648 ≤ v.toInt ∧ v.toInt ≤ 2147483647) (h6 : a = 6 → FP.f2l (FP.l2f v) = v) (h7 : a = 7 → FP.d2l (FP.l2d v) = v) (h8 : a = 8 → 0 ≤ v.toInt ∧ v.toInt ≤ 7) (h9 : a = 9 → v = 0) : okV (nI a) v := by
  have e : ∀ b, b < 10 → nI a = nI b → a = b := fun b hb q => (nI_eq (by omega) (by omega)).mp q
  refine ⟨by rw [nI_toInt (by omega)]; omega, fun q => h0 (e 0 (by omega) q), fun q => h1 (e 1 (by omega) q), fun q => h2 (e 2 (by omega) q), fun q => h3 (e 3 (by omega) q), fun q => h4 (e 4 (by omega) q), fun q => h6 (e 6 (by omega) q), fun q => h7 (e 7 (by omega) q), fun q => h8 (e 8 (by omega) q), fun q => h9 (e 9 (by omega) q)⟩
theorem ok_mk {a : Nat} (v : Int64) (ha : a < 10) (h8 : a = 8 → 0 ≤ v.toInt ∧ v.toInt ≤ 7) : okV (nI a) (mk a v) := by
  refine ok_of ha ?_ ?_ ?_ ?_ ?_ ?_ ?_ ?_ ?_
  · rintro rfl
    rw [mk0]
    by_cases h : v = 0
    · rw [if_pos h]; exact Or.inl rfl
    · rw [if_neg h]; exact Or.inr rfl
  · rintro rfl
    rw [mk1, j8, Int.bmod_def]
    omega
  · rintro rfl
    rw [mk2, jc]
    omega
  · rintro rfl
    rw [mk3, j16, Int.bmod_def]
    omega
  · rintro rfl
    rw [mk4, j32, Int.bmod_def]
    omega
  · rintro rfl
    exact idem24 v
  · rintro rfl
    exact idem53 v
  · rintro rfl
    exact h8 rfl
  · rintro rfl
    rfl
theorem madeOf_s {a : Nat} (ha : a < 9) (v : Int64) : f_X6_madeOf (nI a) v = some (mk a v) := by
  have c : a = 0 ∨ a = 1 ∨ a = 2 ∨ a = 3 ∨ a = 4 ∨ a = 5 ∨ a = 6 ∨ a = 7 ∨ a = 8 := by omega
  rcases c with rfl | rfl | rfl | rfl | rfl | rfl | rfl | rfl | rfl
  · rw [mk0]
    show (if lg_cmp v 0 = 0 then some (0 : Int64) else some 1) = _
    simp only [lc_eq]
    by_cases h : v = 0
    · rw [if_pos h, if_pos h]
    · rw [if_neg h, if_neg h]
  · rfl
  · show some (v &&& (65535 : Int64)) = some (mk 2 v)
    rw [mk2]
    exact congrArg some (k64 (by rw [jm, jc]))
  · rfl
  · rfl
  · rfl
  · show (f_X6_nearest v 24).bind (fun z9 => some z9) = _
    rw [near24]; rfl
  · show (f_X6_nearest v 53).bind (fun z9 => some z9) = _
    rw [near53]; rfl
  · rfl
theorem gone_s {κ b : Nat} {v : Int64} (hκ : κ < 8) (hb : b < 8) (hg : gz κ b = true) (hv : okV (nI κ) v) : f_X6_gone v (nI b) = some (mk b v) := by
  obtain ⟨_, h0, h1, h2, h3, h4, _, _, _, _⟩ := hv
  have c : b = 0 ∨ b = 1 ∨ b = 2 ∨ b = 3 ∨ b = 4 ∨ b = 5 ∨ b = 6 ∨ b = 7 := by omega
  have ck : κ = 0 ∨ κ = 1 ∨ κ = 2 ∨ κ = 3 ∨ κ = 4 ∨ κ = 5 ∨ κ = 6 ∨ κ = 7 := by omega
  rcases c with rfl | rfl | rfl | rfl | rfl | rfl | rfl | rfl
  · have : κ = 0 := by revert hg; rcases ck with rfl | rfl | rfl | rfl | rfl | rfl | rfl | rfl <;> decide
    subst this
    show some v = some (mk 0 v)
    rw [mk0]
    rcases h0 rfl with rfl | rfl <;> rfl
  · have : κ = 1 := by revert hg; rcases ck with rfl | rfl | rfl | rfl | rfl | rfl | rfl | rfl <;> decide
    subst this
    have := h1 rfl
    show some v = some (mk 1 v)
    rw [mk1]
    refine congrArg some (k64 ?_)
    rw [j8, Int.bmod_def, Int.bmod_def]
    omega
  · have : κ = 2 := by revert hg; rcases ck with rfl | rfl | rfl | rfl | rfl | rfl | rfl | rfl <;> decide
    subst this
    have := h2 rfl
    show some v = some (mk 2 v)
    rw [mk2]
    refine congrArg some (k64 ?_)
    rw [jc]
    omega
  · have hr : -32768 ≤ v.toInt ∧ v.toInt ≤ 32767 := by
      have : κ = 1 ∨ κ = 3 := by revert hg; rcases ck with rfl | rfl | rfl | rfl | rfl | rfl | rfl | rfl <;> decide
      rcases this with rfl | rfl
      · have := h1 rfl; omega
      · exact h3 rfl
    show some v = some (mk 3 v)
    rw [mk3]
    refine congrArg some (k64 ?_)
    rw [j16, Int.bmod_def, Int.bmod_def]
    omega
  · have hr : -2147483648 ≤ v.toInt ∧ v.toInt ≤ 2147483647 := by
      have : κ = 1 ∨ κ = 2 ∨ κ = 3 ∨ κ = 4 := by revert hg; rcases ck with rfl | rfl | rfl | rfl | rfl | rfl | rfl | rfl <;> decide
      rcases this with rfl | rfl | rfl | rfl
      · have := h1 rfl; omega
      · have := h2 rfl; omega
      · have := h3 rfl; omega
      · exact h4 rfl
    show some v = some (mk 4 v)
    rw [mk4]
    refine congrArg some (k64 ?_)
    rw [j32, Int.bmod_def]
    omega
  · rfl
  · show (f_X6_nearest v 24).bind (fun z9 => some z9) = _
    rw [near24]; rfl
  · show (f_X6_nearest v 53).bind (fun z9 => some z9) = _
    rw [near53]; rfl
