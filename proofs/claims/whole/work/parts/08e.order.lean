/-! the order of values, cells -/
def sg (x y : Int) : Int32 := if x < y then -1 else if x = y then 0 else 1
theorem sg_lt {x y : Int} (h : x < y) : sg x y = -1 := if_pos h
theorem sg_eq {x y : Int} (h : x = y) : sg x y = 0 := by unfold sg; rw [if_neg (by omega), if_pos h]
theorem sg_gt {x y : Int} (h : y < x) : sg x y = 1 := by unfold sg; rw [if_neg (by omega), if_neg (by omega)]
theorem sg_cases (x y : Int) : (x < y ∧ sg x y = -1) ∨ (x = y ∧ sg x y = 0) ∨ (y < x ∧ sg x y = 1) := by
  rcases Int.lt_trichotomy x y with h | h | h
  · exact Or.inl ⟨h, sg_lt h⟩
  · exact Or.inr (Or.inl ⟨h, sg_eq h⟩)
  · exact Or.inr (Or.inr ⟨h, sg_gt h⟩)
theorem sg_cg {x y a b : Int} (h1 : x < y ↔ a < b) (h2 : x = y ↔ a = b) : sg x y = sg a b := by
  unfold sg
  simp only [h1, h2]
theorem sg_z {x y : Int} : (sg x y = 0) ↔ x = y := by
  rcases sg_cases x y with ⟨h, e⟩ | ⟨h, e⟩ | ⟨h, e⟩ <;> rw [e]
  · exact ⟨fun q => absurd q (by decide), fun q => by omega⟩
  · exact ⟨fun _ => h, fun _ => rfl⟩
  · exact ⟨fun q => absurd q (by decide), fun q => by omega⟩
theorem sg_n {x y : Int} : (sg x y < 0) ↔ x < y := by
  rcases sg_cases x y with ⟨h, e⟩ | ⟨h, e⟩ | ⟨h, e⟩ <;> rw [e]
  · exact ⟨fun _ => h, fun _ => by decide⟩
  · exact ⟨fun q => absurd q (by decide), fun q => by omega⟩
  · exact ⟨fun q => absurd q (by decide), fun q => by omega⟩
theorem sg_ge {x y : Int} : (0 ≤ sg x y) ↔ y ≤ x := by
  rcases sg_cases x y with ⟨h, e⟩ | ⟨h, e⟩ | ⟨h, e⟩ <;> rw [e]
  · exact ⟨fun q => absurd q (by decide), fun q => by omega⟩
  · exact ⟨fun _ => by omega, fun _ => by decide⟩
  · exact ⟨fun _ => by omega, fun _ => by decide⟩
theorem sg_le {x y : Int} : (sg x y ≤ 0) ↔ x ≤ y := by
  rcases sg_cases x y with ⟨h, e⟩ | ⟨h, e⟩ | ⟨h, e⟩ <;> rw [e]
  · exact ⟨fun _ => by omega, fun _ => by decide⟩
  · exact ⟨fun _ => by omega, fun _ => by decide⟩
  · exact ⟨fun q => absurd q (by decide), fun q => by omega⟩
theorem sg_neg (x y : Int) : -(sg x y) = sg y x := by
  rcases sg_cases x y with ⟨h, e⟩ | ⟨h, e⟩ | ⟨h, e⟩
  · rw [e, sg_gt h]; rfl
  · rw [e, sg_eq h.symm]; rfl
  · rw [e, sg_lt h]
theorem J6_s (x y : Int32) : f_J6_compare_7cf53 x y = some (sg x.toInt y.toInt) := by
  unfold f_J6_compare_7cf53
  simp only [le32, eq32]
  by_cases h : y.toInt ≤ x.toInt
  · rw [if_pos h]
    by_cases h2 : x.toInt = y.toInt
    · rw [if_pos h2, sg_eq h2]
    · rw [if_neg h2, sg_gt (by omega)]
  · rw [if_neg h, sg_lt (by omega)]
theorem J13_s (x y : Int64) : f_J13_compare_74951 x y = some (sg x.toInt y.toInt) := by
  unfold f_J13_compare_74951
  simp only [lc_ge, lc_eq]
  by_cases h : y.toInt ≤ x.toInt
  · rw [if_pos h]
    by_cases h2 : x = y
    · rw [if_pos h2, sg_eq (by rw [h2])]
    · have : x.toInt ≠ y.toInt := fun q => h2 (k64 q)
      rw [if_neg h2, sg_gt (by omega)]
  · rw [if_neg h, sg_lt (by omega)]
/-- a tag's weight in the order -/
def hf (g : Nat → Int32) (v : Int64) : Int := if 4 ≤ v.toInt then 2 * (g v.toInt.toNat).toInt else (g v.toInt.toNat).toInt
/-- a value's place in the order -/
def kv (g : Nat → Int32) (a : Int32) (v : Int64) : Int := (if a = 9 then -1 else a.toInt) * 73786976294838206464 + (if a = 8 then hf g v else v.toInt)
theorem tagIx {v : Int64} (h0 : 0 ≤ v.toInt) (h7 : v.toInt ≤ 7) : Int64.toInt32 v = nI v.toInt.toNat := by
  refine k32 ?_
  rw [Int64.toInt_toInt32, nI_toInt (by omega), Int.bmod_def]
  omega
theorem b64lo (v : Int64) : -9223372036854775808 ≤ v.toInt ∧ v.toInt ≤ 9223372036854775807 := by
  have h1 := Int64.le_toInt v
  have h2 := Int64.toInt_lt v
  omega
section OR1
variable {k z t g ks kb kw : Nat → Int32} {n : Nat → Int64} {kc ss hs : Int32} {hn : Int64} {w : Nat → Int64}
theorem heft_s (hg : ∀ t, t < 8 → -1000 ≤ (g t).toInt ∧ (g t).toInt ≤ 1000) {v : Int64} (hv : 0 ≤ v.toInt ∧ v.toInt ≤ 7) : ∃ x : Int32, f_X0_heft g v = some x ∧ x.toInt = hf g v := by
  have e0 : (0 : Int64).toInt = 0 := rfl
  have e4 : (4 : Int64).toInt = 4 := rfl
  have e8 : (8 : Int64).toInt = 8 := rfl
  unfold f_X0_heft hf
  simp only [lc_lt, e0, e4, e8]
  rw [tagIx hv.1 hv.2, if_neg (by omega), if_pos (by omega), if_pos (ib_n (by omega) (by omega)), if_pos (ib_n (by omega) (by omega)), nI_clamp (by omega)]
  have hb := hg v.toInt.toNat (by omega)
  by_cases h : v.toInt < 4
  · rw [if_pos h, if_neg (by omega)]
    exact ⟨_, rfl, rfl⟩
  · rw [if_neg h, if_pos (by omega)]
    refine ⟨_, rfl, ?_⟩
    rw [Int32.toInt_mul, show (2 : Int32).toInt = 2 from rfl, Int.bmod_def]
    omega
theorem heftM_s (hg : ∀ t, t < 8 → -1000 ≤ (g t).toInt ∧ (g t).toInt ≤ 1000) (hw : ∀ t, t < 8 → w (172 + t) = (g t).toInt64) {v : Int64} (hv : 0 ≤ v.toInt ∧ v.toInt ≤ 7) : ∃ x : Int64, f_X6_heft w v = some x ∧ x.toInt = hf g v := by
  have e4 : (4 : Int64).toInt = 4 := rfl
  unfold f_X6_heft hf
  simp only [lc_ge, e4]
  rw [tagIx hv.1 hv.2, n172, nI_add, if_pos (ib_n (by omega) (by omega)), if_pos (ib_n (by omega) (by omega)), nI_clamp (by omega), hw _ (by omega)]
  have hb := hg v.toInt.toNat (by omega)
  by_cases h : v.toInt < 4
  · rw [if_neg (by omega), if_neg (by omega)]
    exact ⟨_, rfl, t64 _⟩
  · rw [if_pos (by omega), if_pos (by omega)]
    refine ⟨_, rfl, ?_⟩
    rw [Int64.toInt_mul, t64, show (2 : Int64).toInt = 2 from rfl, Int.bmod_def]
    omega
theorem ok9 {a : Int32} {v : Int64} (h : okV a v) : 0 ≤ a.toInt ∧ a.toInt ≤ 9 := h.1
theorem ok8 {v : Int64} (h : okV 8 v) : 0 ≤ v.toInt ∧ v.toInt ≤ 7 := h.2.2.2.2.2.2.2.2.1 rfl
theorem hf_b (hg : ∀ t, t < 8 → -1000 ≤ (g t).toInt ∧ (g t).toInt ≤ 1000) {v : Int64} (hv : 0 ≤ v.toInt ∧ v.toInt ≤ 7) : -2000 ≤ hf g v ∧ hf g v ≤ 2000 := by
  have hb := hg v.toInt.toNat (by omega)
  unfold hf
  by_cases h : 4 ≤ v.toInt
  · rw [if_pos h]; omega
  · rw [if_neg h]; omega
theorem kv2_b (hg : ∀ t, t < 8 → -1000 ≤ (g t).toInt ∧ (g t).toInt ≤ 1000) {a : Int32} {v : Int64} (hv : okV a v) : -9223372036854775808 ≤ (if a = 8 then hf g v else v.toInt) ∧ (if a = 8 then hf g v else v.toInt) ≤ 9223372036854775807 := by
  by_cases h : a = 8
  · subst h
    rw [if_pos rfl]
    have := hf_b hg (ok8 hv)
    omega
  · rw [if_neg h]
    exact b64lo v
theorem kv_b (hg : ∀ t, t < 8 → -1000 ≤ (g t).toInt ∧ (g t).toInt ≤ 1000) {a : Int32} {v : Int64} (hv : okV a v) : -1180591620717411303424 < kv g a v ∧ kv g a v < 1180591620717411303424 := by
  have h1 := kv2_b hg hv
  have h2 := ok9 hv
  unfold kv
  generalize (if a = 8 then hf g v else v.toInt) = q at h1
  by_cases h : a = 9
  · rw [if_pos h]; omega
  · rw [if_neg h]; omega
theorem compV_s (hg : ∀ t, t < 8 → -1000 ≤ (g t).toInt ∧ (g t).toInt ≤ 1000) {a b : Int32} {x y : Int64} (ha : okV a x) (hb : okV b y) : f_X0_compareValues g a x b y = some (sg (kv g a x) (kv g b y)) := by
  unfold f_X0_compareValues
  have q1 := kv2_b hg ha
  have q2 := kv2_b hg hb
  have r1 := ok9 ha
  have r2 := ok9 hb
  by_cases h : a = b
  · rw [if_pos h]
    subst h
    by_cases h8 : a = 8
    · subst h8
      obtain ⟨p, e1, e2⟩ := heft_s hg (ok8 ha)
      obtain ⟨q, e3, e4⟩ := heft_s hg (ok8 hb)
      rw [if_pos rfl, e1, Option.bind_some, e3, Option.bind_some, J6_s, Option.bind_some, e2, e4]
      unfold kv
      rw [if_pos rfl, if_pos rfl]
      exact congrArg some (sg_cg (by omega) (by omega))
    · rw [if_neg h8, J13_s, Option.bind_some]
      unfold kv
      rw [if_neg h8, if_neg h8]
      exact congrArg some (sg_cg (by omega) (by omega))
  · rw [if_neg h]
    unfold kv
    generalize (if a = 8 then hf g x else x.toInt) = q at q1
    generalize (if b = 8 then hf g y else y.toInt) = r at q2
    have hne : a.toInt ≠ b.toInt := fun e => h (k32 e)
    by_cases h9 : a = 9
    · have : b ≠ 9 := fun e => h (h9.trans e.symm)
      rw [if_pos h9, if_pos h9, if_neg this, sg_lt (by omega)]
    · rw [if_neg h9, if_neg h9]
      by_cases h9' : b = 9
      · rw [if_pos h9', if_pos h9', sg_gt (by omega)]
      · rw [if_neg h9', if_neg h9', J6_s, Option.bind_some]
        exact congrArg some (sg_cg (by omega) (by omega))
theorem lgsg (x y : Int64) : (if 0 ≤ lg_cmp x y then (if lg_cmp x y ≤ 0 then some (0 : Int32) else some 1) else some (-1)) = some (sg x.toInt y.toInt) := by
  simp only [lc_ge, lc_le]
  by_cases h : y.toInt ≤ x.toInt
  · rw [if_pos h]
    by_cases h2 : x.toInt ≤ y.toInt
    · rw [if_pos h2, sg_eq (by omega)]
    · rw [if_neg h2, sg_gt (by omega)]
  · rw [if_neg h, sg_lt (by omega)]
theorem against_s (hg : ∀ t, t < 8 → -1000 ≤ (g t).toInt ∧ (g t).toInt ≤ 1000) (hw : ∀ t, t < 8 → w (172 + t) = (g t).toInt64) {a b : Int32} {x y : Int64} (ha : okV a x) (hb : okV b y) : f_X6_against w a x b y = some (sg (kv g a x) (kv g b y)) := by
  unfold f_X6_against
  have q1 := kv2_b hg ha
  have q2 := kv2_b hg hb
  have r1 := ok9 ha
  have r2 := ok9 hb
  by_cases h : a = b
  · rw [if_pos h]
    subst h
    by_cases h8 : a = 8
    · subst h8
      obtain ⟨p, e1, e2⟩ := heftM_s hg hw (ok8 ha)
      obtain ⟨q, e3, e4⟩ := heftM_s hg hw (ok8 hb)
      rw [if_pos rfl, e1, Option.bind_some, if_pos rfl, e3, Option.bind_some, lgsg, e2, e4]
      unfold kv
      rw [if_pos rfl, if_pos rfl]
      exact congrArg some (sg_cg (by omega) (by omega))
    · rw [if_neg h8, if_neg h8, lgsg]
      unfold kv
      rw [if_neg h8, if_neg h8]
      exact congrArg some (sg_cg (by omega) (by omega))
  · rw [if_neg h]
    unfold kv
    generalize (if a = 8 then hf g x else x.toInt) = q at q1
    generalize (if b = 8 then hf g y else y.toInt) = r at q2
    have hne : a.toInt ≠ b.toInt := fun e => h (k32 e)
    by_cases h9 : a = 9
    · have : b ≠ 9 := fun e => h (h9.trans e.symm)
      rw [if_pos h9, if_pos h9, if_neg this, sg_lt (by omega)]
    · rw [if_neg h9, if_neg h9]
      by_cases h9' : b = 9
      · rw [if_pos h9', if_pos h9', sg_gt (by omega)]
      · rw [if_neg h9', if_neg h9']
        simp only [le32]
        by_cases hl : b.toInt ≤ a.toInt
        · rw [if_pos hl, sg_gt (by omega)]
        · rw [if_neg hl, sg_lt (by omega)]
theorem against_p {b : Nat} (hb : b < 8) (x y : Int64) : f_X6_against w (nI b) x (nI b) y = some (sg x.toInt y.toInt) := by
  have h8 : ¬ nI b = 8 := by
    rw [show (8 : Int32) = nI 8 from rfl, nI_eq (by omega) (by omega)]; omega
  unfold f_X6_against
  rw [if_pos rfl, if_neg h8, if_neg h8, lgsg]
/-- what is read of a cell, in the order -/
noncomputable def rv (g t : Nat → Int32) (n : Nat → Int64) (s b i : Nat) : Int := if b = 8 then kv g (t (12 * s + i)) (n (12 * s + i)) else (mk b (n (12 * s + i))).toInt
theorem rv_b (hW : WFu (k, z, t, n, g, ks, kb, kw, kc, ss, hs, hn)) {s b i : Nat} (h : s < 6) (hi : i < 12) : -1180591620717411303424 < rv g t n s b i ∧ rv g t n s b i < 1180591620717411303424 := by
  unfold rv
  by_cases h8 : b = 8
  · rw [if_pos h8]
    exact kv_b (fun t ht => wf3 hW ht) (wf2 hW h hi).1
  · rw [if_neg h8]
    have := b64lo (mk b (n (12 * s + i)))
    omega
theorem nI8 {b : Nat} (hb : b < 9) : (nI b = 8) ↔ b = 8 := by
  rw [show (8 : Int32) = nI 8 from rfl, nI_eq (by omega) (by omega)]
theorem compC_s (hW : WFu (k, z, t, n, g, ks, kb, kw, kc, ss, hs, hn)) {s b i j : Nat} (h : s < 6) (hb : b < 9) (hi : i < 12) (hj : j < 12) : f_X0_compareCells t n g (nI s) (nI b) (nI i) (nI j) = some (sg (rv g t n s b i) (rv g t n s b j)) := by
  unfold f_X0_compareCells rv
  by_cases h8 : b = 8
  · rw [if_pos ((nI8 hb).mpr h8), if_pos h8, if_pos h8, sortAt_n h hi, Option.bind_some, numberAt_n h hi, Option.bind_some, sortAt_n h hj, Option.bind_some, numberAt_n h hj, Option.bind_some, compV_s (fun t ht => wf3 hW ht) (wf2 hW h hi).1 (wf2 hW h hj).1]
    rfl
  · rw [if_neg (fun q => h8 ((nI8 hb).mp q)), if_neg h8, if_neg h8, numberAt_n h hi, Option.bind_some, made_s, Option.bind_some, numberAt_n h hj, Option.bind_some, made_s, Option.bind_some, J13_s]
    rfl
theorem sortRead_s (hB : RBu (k, z, t, n, g, ks, kb, kw, kc, ss, hs, hn) w 0) {s b i : Nat} (h : s < 6) (hi : i < 12) (hb : b < 9) : f_X6_sortRead w (nI s) (nI i) (nI b) = some (if b = 8 then t (12 * s + i) else nI b) := by
  unfold f_X6_sortRead
  by_cases h8 : b = 8
  · rw [if_pos ((nI8 hb).mpr h8), if_pos h8, sortM_n hB h hi]
    rfl
  · rw [if_neg (fun q => h8 ((nI8 hb).mp q)), if_neg h8]
theorem numM_s (hB : RBu (k, z, t, n, g, ks, kb, kw, kc, ss, hs, hn) w 0) {s i : Nat} (h : s < 6) (hi : i < 12) : ib ((84 : Int32) + nI (12 * s + i)) 3420 = true ∧ w ((84 : Int32) + nI (12 * s + i)).toNatClampNeg = n (12 * s + i) := by
  rw [n84, nI_add]
  exact ⟨ib_n (by omega) (by decide), by rw [nI_clamp (by omega), (rb2 hB (by omega)).2]⟩
theorem numberRead_s (hW : WFu (k, z, t, n, g, ks, kb, kw, kc, ss, hs, hn)) (hB : RBu (k, z, t, n, g, ks, kb, kw, kc, ss, hs, hn) w 0) {s b i κ : Nat} (h : s < 6) (hi : i < 12) (hb : b < 9) (hκ : κ < 12) (e : k s = nI κ) (hr : crb κ b = true) : f_X6_numberRead w (nI s) (nI i) (nI b) = some (if b = 8 then n (12 * s + i) else mk b (n (12 * s + i))) := by
  unfold f_X6_numberRead
  rw [atM_n, Option.bind_some, if_pos (numM_s hB h hi).1, (numM_s hB h hi).2, Option.bind_some]
  by_cases h8 : b = 8
  · rw [if_pos ((nI8 hb).mpr h8), if_pos h8]
  · rw [if_neg (fun q => h8 ((nI8 hb).mp q)), if_neg h8]
    unfold crb at hr
    rw [if_neg h8, Bool.and_eq_true, decide_eq_true_eq] at hr
    have hok := (wf2 hW h hi)
    rw [e] at hok
    rw [hok.2 (by rw [nI_toInt (by omega)]; omega)] at hok
    rw [gone_s (by omega) (by omega) hr.2 hok.1]
    rfl
theorem cells_s (hW : WFu (k, z, t, n, g, ks, kb, kw, kc, ss, hs, hn)) (hB : RBu (k, z, t, n, g, ks, kb, kw, kc, ss, hs, hn) w 0) {s b i j κ : Nat} (h : s < 6) (hb : b < 9) (hi : i < 12) (hj : j < 12) (hκ : κ < 12) (e : k s = nI κ) (hr : crb κ b = true) : f_X6_cells w (nI s) (nI b) (nI i) (nI j) = some (sg (rv g t n s b i) (rv g t n s b j)) := by
  unfold f_X6_cells rv
  rw [sortRead_s hB h hi hb, Option.bind_some, numberRead_s hW hB h hi hb hκ e hr, Option.bind_some, sortRead_s hB h hj hb, Option.bind_some, numberRead_s hW hB h hj hb hκ e hr, Option.bind_some]
  by_cases h8 : b = 8
  · rw [if_pos h8, if_pos h8, if_pos h8, if_pos h8, if_pos h8, if_pos h8, against_s (fun t ht => wf3 hW ht) (fun t ht => rb6 hB ht) (wf2 hW h hi).1 (wf2 hW h hj).1]
    rfl
  · rw [if_neg h8, if_neg h8, if_neg h8, if_neg h8, if_neg h8, if_neg h8, against_p (by omega)]
    rfl
end OR1
