/-! the calls that only read: row, cell, hand, tag, keyAt, compare, rank, tear, seed -/
theorem inC (x a b : Int32) (a' b' : Int64) (ha : a'.toInt = a.toInt) (hb' : b'.toInt = b.toInt) : (f_X5_isIn x a b = some 0 ∧ f_X6_in (Int32.toInt64 x) a' b' = some 0 ∧ ¬ (a.toInt ≤ x.toInt ∧ x.toInt ≤ b.toInt)) ∨ (f_X5_isIn x a b = some 1 ∧ f_X6_in (Int32.toInt64 x) a' b' = some 1 ∧ (a.toInt ≤ x.toInt ∧ x.toInt ≤ b.toInt)) := by
  rw [isIn_v, in_v, t64, ha, hb']
  by_cases h : a.toInt ≤ x.toInt ∧ x.toInt ≤ b.toInt
  · rw [if_pos h]; exact Or.inr ⟨rfl, rfl, h⟩
  · rw [if_neg h]; exact Or.inl ⟨rfl, rfl, h⟩
theorem z10 : ¬ (1 : Int32) = 0 := by decide
theorem t14 : (14 : Int32) = nI 14 := rfl
theorem sim_row {b_kinds : Nat → Int32} {b_sizes : Nat → Int32} {b_sorts : Nat → Int32} {b_numbers : Nat → Int64} {b_weights : Nat → Int32} {b_keySlots : Nat → Int32} {b_keyBys : Nat → Int32} {b_keyWays : Nat → Int32} {b_keyCount : Int32} {b_sheetSet : Int32} {b_handSort : Int32} {b_handNumber : Int64} {x_imageRandoms : Nat → Int32} {x_random : Int32} {h_next : Int32} {h_count : Int32} {k_places : Nat → Int32} {k_positions : Nat → Int32} {k_count : Int32} {w_w : Nat → Int64} {w_imageSeed : Nat → Int32} {w_isKept : Nat → Int32} {w_undos : Int32} {w_seed : Int32} {w_entries : Int32} {w_bookPlace : Nat → Int32} {w_bookPosition : Nat → Int32} {P_hs : HT} (hR : Rel (b_kinds, b_sizes, b_sorts, b_numbers, b_weights, b_keySlots, b_keyBys, b_keyWays, b_keyCount, b_sheetSet, b_handSort, b_handNumber) x_imageRandoms x_random h_next h_count P_hs k_places k_positions k_count w_w w_imageSeed w_isKept w_undos w_seed w_entries w_bookPlace w_bookPosition) (x1 : Int32) (x2 : Int32) : ∃ (zc : Int32) (zm : Int32), f_X5_row b_kinds b_sizes x1 x2 = some zc ∧ f_X6_row w_w x1 x2 = some zm ∧ zc = zm ∧ Rel (b_kinds, b_sizes, b_sorts, b_numbers, b_weights, b_keySlots, b_keyBys, b_keyWays, b_keyCount, b_sheetSet, b_handSort, b_handNumber) x_imageRandoms x_random h_next h_count P_hs k_places k_positions k_count w_w w_imageSeed w_isKept w_undos w_seed w_entries w_bookPlace w_bookPosition := by
  have hW := hR.1
  have hB := hR.2.1
  suffices h : ∃ v, f_X5_row b_kinds b_sizes x1 x2 = some v ∧ f_X6_row w_w x1 x2 = some v by
    obtain ⟨v, h1, h2⟩ := h
    exact ⟨v, v, h1, h2, rfl, hR⟩
  unfold f_X5_row f_X6_row
  rcases slotC x1 with ⟨h1, h2⟩ | ⟨s, hs, rfl, h1, h2⟩
  · rw [h1, h2]; exact ⟨_, rfl, rfl⟩
  rcases inC x2 0 1 0 1 rfl rfl with ⟨h3, h4, _⟩ | ⟨h3, h4, _⟩
  · rw [h1, h2, h3, h4]; exact ⟨_, rfl, rfl⟩
  rw [h1, h2, h3, h4, kindOf_n hs, kindM_n hB hs, holds_n hs, isRowM_n hB hs]
  simp only [Option.bind_some, if_neg z10]
  by_cases h0 : x2 = 0
  · simp only [if_pos h0]; exact ⟨_, rfl, rfl⟩
  simp only [if_neg h0]
  by_cases h11 : (b_kinds s).toInt ≤ 11
  · have h14 : ¬ b_kinds s = 14 := fun e => by rw [e] at h11; exact absurd h11 (by decide)
    rw [if_pos h11, if_neg h14, sizeOf_n hs, manyM_n hB hs h11]
    simp only [Option.bind_some, if_neg z10, if_neg h14]
    exact ⟨_, rfl, rfl⟩
  · rw [if_neg h11]
    by_cases h14 : b_kinds s = 14
    · rw [if_pos h14, if_pos h14]; exact ⟨_, rfl, rfl⟩
    · rw [if_neg h14, if_neg h14]; exact ⟨_, rfl, rfl⟩
theorem sim_cell {b_kinds : Nat → Int32} {b_sizes : Nat → Int32} {b_sorts : Nat → Int32} {b_numbers : Nat → Int64} {b_weights : Nat → Int32} {b_keySlots : Nat → Int32} {b_keyBys : Nat → Int32} {b_keyWays : Nat → Int32} {b_keyCount : Int32} {b_sheetSet : Int32} {b_handSort : Int32} {b_handNumber : Int64} {x_imageRandoms : Nat → Int32} {x_random : Int32} {h_next : Int32} {h_count : Int32} {k_places : Nat → Int32} {k_positions : Nat → Int32} {k_count : Int32} {w_w : Nat → Int64} {w_imageSeed : Nat → Int32} {w_isKept : Nat → Int32} {w_undos : Int32} {w_seed : Int32} {w_entries : Int32} {w_bookPlace : Nat → Int32} {w_bookPosition : Nat → Int32} {P_hs : HT} (hR : Rel (b_kinds, b_sizes, b_sorts, b_numbers, b_weights, b_keySlots, b_keyBys, b_keyWays, b_keyCount, b_sheetSet, b_handSort, b_handNumber) x_imageRandoms x_random h_next h_count P_hs k_places k_positions k_count w_w w_imageSeed w_isKept w_undos w_seed w_entries w_bookPlace w_bookPosition) (x1 : Int32) (x2 : Int32) (x3 : Int32) : ∃ (zc : Int64) (zm : Int64), f_X5_cell b_kinds b_sizes b_sorts b_numbers x1 x2 x3 = some zc ∧ f_X6_cell w_w x1 x2 x3 = some zm ∧ zc = zm ∧ Rel (b_kinds, b_sizes, b_sorts, b_numbers, b_weights, b_keySlots, b_keyBys, b_keyWays, b_keyCount, b_sheetSet, b_handSort, b_handNumber) x_imageRandoms x_random h_next h_count P_hs k_places k_positions k_count w_w w_imageSeed w_isKept w_undos w_seed w_entries w_bookPlace w_bookPosition := by
  have hW := hR.1
  have hB := hR.2.1
  suffices h : ∃ v, f_X5_cell b_kinds b_sizes b_sorts b_numbers x1 x2 x3 = some v ∧ f_X6_cell w_w x1 x2 x3 = some v by
    obtain ⟨v, h1, h2⟩ := h
    exact ⟨v, v, h1, h2, rfl, hR⟩
  unfold f_X5_cell f_X6_cell
  rcases slotC x1 with ⟨h1, h2⟩ | ⟨s, hs, rfl, h1, h2⟩
  · rw [h1, h2]; exact ⟨_, rfl, rfl⟩
  rcases inC x3 0 1 0 1 rfl rfl with ⟨h3, h4, _⟩ | ⟨h3, h4, _⟩
  · rw [h1, h2, h3, h4]; exact ⟨_, rfl, rfl⟩
  obtain ⟨κ, hκ, ek⟩ := kin hW hs
  have hwr := whyRead_n hW hs hκ ek (show 8 < 9 by omega) x2
  have hlk := lacksM_n hW hB hs (x := x2) (y := Int32.toInt64 x2) (t64 x2)
  rw [h1, h2, h3, h4, show (8 : Int32) = nI 8 from rfl, hwr, hlk]
  simp only [Option.bind_some, if_neg z10]
  by_cases h0 : rea b_kinds b_sizes s x2 = 0
  · obtain ⟨h11, i, hi, _, rfl⟩ := rea_0 hW hs h0
    rw [ek, nI_toInt (by omega)] at h11
    have hc : crb κ 8 = true := by unfold crb; rw [if_pos rfl]; exact decide_eq_true (by omega)
    have hle : (0 : Int32) ≤ 0 := by decide
    rw [h0]
    simp only [hc, if_true, if_pos hle, sortAt_n hs hi, numberAt_n hs hi, sortM_n hB hs hi, atM_n, Option.bind_some, (numM_s hB hs hi).1, (numM_s hB hs hi).2]
    by_cases h5 : x3 = 0
    · simp only [if_pos h5]; exact ⟨_, rfl, rfl⟩
    · simp only [if_neg h5]; exact ⟨_, rfl, rfl⟩
  · have hr := rea_in (k := b_kinds) (z := b_sizes) s x2
    have hle : ¬ rea b_kinds b_sizes s x2 ≤ 0 := by
      rcases hr with e | e | e | e
      · exact absurd e h0
      · rw [e]; decide
      · rw [e]; decide
      · rw [e]; decide
    simp only [if_neg h0, if_neg hle]
    by_cases h5 : x3 = 0
    · simp only [if_pos h5]; exact ⟨_, rfl, rfl⟩
    · simp only [if_neg h5]; exact ⟨_, rfl, rfl⟩
theorem sim_hand {b_kinds : Nat → Int32} {b_sizes : Nat → Int32} {b_sorts : Nat → Int32} {b_numbers : Nat → Int64} {b_weights : Nat → Int32} {b_keySlots : Nat → Int32} {b_keyBys : Nat → Int32} {b_keyWays : Nat → Int32} {b_keyCount : Int32} {b_sheetSet : Int32} {b_handSort : Int32} {b_handNumber : Int64} {x_imageRandoms : Nat → Int32} {x_random : Int32} {h_next : Int32} {h_count : Int32} {k_places : Nat → Int32} {k_positions : Nat → Int32} {k_count : Int32} {w_w : Nat → Int64} {w_imageSeed : Nat → Int32} {w_isKept : Nat → Int32} {w_undos : Int32} {w_seed : Int32} {w_entries : Int32} {w_bookPlace : Nat → Int32} {w_bookPosition : Nat → Int32} {P_hs : HT} (hR : Rel (b_kinds, b_sizes, b_sorts, b_numbers, b_weights, b_keySlots, b_keyBys, b_keyWays, b_keyCount, b_sheetSet, b_handSort, b_handNumber) x_imageRandoms x_random h_next h_count P_hs k_places k_positions k_count w_w w_imageSeed w_isKept w_undos w_seed w_entries w_bookPlace w_bookPosition) (x1 : Int32) : ∃ (zc : Int64) (zm : Int64), f_X5_hand b_handSort b_handNumber x1 = some zc ∧ f_X6_hand w_w x1 = some zm ∧ zc = zm ∧ Rel (b_kinds, b_sizes, b_sorts, b_numbers, b_weights, b_keySlots, b_keyBys, b_keyWays, b_keyCount, b_sheetSet, b_handSort, b_handNumber) x_imageRandoms x_random h_next h_count P_hs k_places k_positions k_count w_w w_imageSeed w_isKept w_undos w_seed w_entries w_bookPlace w_bookPosition := by
  have hB := hR.2.1
  have h5 := rb5 hB
  suffices h : ∃ v, f_X5_hand b_handSort b_handNumber x1 = some v ∧ f_X6_hand w_w x1 = some v by
    obtain ⟨v, h1, h2⟩ := h
    exact ⟨v, v, h1, h2, rfl, hR⟩
  unfold f_X5_hand f_X6_hand
  rw [show w_w (Int32.toNatClampNeg 170) = w_w 170 from rfl, show w_w (Int32.toNatClampNeg 171) = w_w 171 from rfl, h5.2.1, h5.2.2]
  by_cases h0 : x1 = 0
  · simp only [if_pos h0]; exact ⟨_, rfl, rfl⟩
  simp only [if_neg h0]
  by_cases h0 : x1 = 1
  · simp only [if_pos h0]; exact ⟨_, rfl, rfl⟩
  simp only [if_neg h0]
  exact ⟨_, rfl, rfl⟩
theorem isTag_v (x : Int32) : (f_X5_isTag (Int32.toInt64 x) = some 0 ∧ f_X6_in (Int32.toInt64 x) 0 7 = some 0) ∨ ∃ τ : Nat, τ < 8 ∧ x = nI τ ∧ f_X5_isTag (Int32.toInt64 x) = some 1 ∧ f_X6_in (Int32.toInt64 x) 0 7 = some 1 := by
  rw [in_v]
  unfold f_X5_isTag
  simp only [lc_lt, lc_ge, t64]
  have e0 : (0 : Int64).toInt = 0 := rfl
  have e7 : (7 : Int64).toInt = 7 := rfl
  have e8 : (8 : Int64).toInt = 8 := rfl
  rw [e0, e7, e8]
  by_cases h : 0 ≤ x.toInt ∧ x.toInt ≤ 7
  · obtain ⟨τ, hτ, rfl⟩ := inN (N := 8) h.1 (by omega)
    rw [if_neg (by omega), if_neg (by omega), if_pos (by omega)]
    exact Or.inr ⟨τ, hτ, rfl, rfl, rfl⟩
  · by_cases h1 : x.toInt < 0
    · rw [if_pos h1, if_neg h]; exact Or.inl ⟨rfl, rfl⟩
    · rw [if_neg h1, if_pos (by omega), if_neg h]; exact Or.inl ⟨rfl, rfl⟩
section TG1
variable {k z t g ks kb kw : Nat → Int32} {n : Nat → Int64} {kc ss hs : Int32} {hn : Int64} {w : Nat → Int64}
theorem tagIn_s (hW : WFu (k, z, t, n, g, ks, kb, kw, kc, ss, hs, hn)) (hB : RBu (k, z, t, n, g, ks, kb, kw, kc, ss, hs, hn) w 0) (x : Int32) {s : Nat} (hs : s < 6) (a : Int32) : ∃ r p, L_X0_cellsWithTag_13 z t n x (nI s) 4000 a 0 = some r ∧ L_X6_tagged_13 w x (nI s) 4000 a 0 = some p ∧ r = p := by
  obtain ⟨κ, hκ, ek⟩ := kin hW hs
  obtain ⟨ζ, hζ, ez⟩ := zin hW hs
  by_cases h11 : κ ≤ 11
  · have h11' : (k s).toInt ≤ 11 := by rw [ek, nI_toInt (by omega)]; omega
    refine lock (fun f q a => L_X0_cellsWithTag_13 z t n x (nI s) f a (nI q)) (fun f q a => L_X6_tagged_13 w x (nI s) f a (nI q)) (fun _ a b => a = b) (fun r p => r = p) ζ ?_ ?_ ζ 0 4000 4000 a a (by omega) (by omega) (by omega) rfl
    · rintro f g a b rfl
      refine ⟨a, a, ?_, ?_, rfl⟩
      · show L_X0_cellsWithTag_13 z t n x (nI s) (f + 1) a (nI ζ) = some a
        rw [L_X0_cellsWithTag_13, sizeOf_n hs, ez, Option.bind_some, if_pos (nI_le (by omega) (by omega))]
      · show L_X6_tagged_13 w x (nI s) (g + 1) a (nI ζ) = some a
        rw [L_X6_tagged_13, isRowM_n hB hs, if_pos h11', Option.bind_some, if_neg z10, manyM_n hB hs h11', ez, Option.bind_some, if_pos (nI_le (by omega) (by omega))]
    · rintro f g q a b hq rfl
      refine Or.inl ?_
      show ∃ s' t', _ ∧ L_X0_cellsWithTag_13 z t n x (nI s) (f + 1) a (nI q) = L_X0_cellsWithTag_13 z t n x (nI s) f s' (nI (q + 1)) ∧ L_X6_tagged_13 w x (nI s) (g + 1) a (nI q) = L_X6_tagged_13 w x (nI s) g t' (nI (q + 1))
      rw [L_X0_cellsWithTag_13, L_X6_tagged_13, sizeOf_n hs, isRowM_n hB hs, if_pos h11', manyM_n hB hs h11', ez, sortAt_n hs (by omega), sortM_n hB hs (by omega), numberAt_n hs (by omega), atM_n]
      have hge : ¬ nI ζ ≤ nI q := nI_ge hq (by omega)
      simp only [Option.bind_some, if_neg z10, if_neg hge, (numM_s hB hs (show q < 12 by omega)).1, (numM_s hB hs (show q < 12 by omega)).2, if_true, nI_1, Int32.add_zero]
      by_cases h8 : t (12 * s + q) = 8
      · simp only [if_pos h8]
        by_cases he : lg_cmp (n (12 * s + q)) (Int32.toInt64 x) = 0
        · simp only [if_pos he]; exact ⟨_, _, rfl, rfl, rfl⟩
        · simp only [if_neg he]; exact ⟨_, _, rfl, rfl, rfl⟩
      · simp only [if_neg h8]; exact ⟨_, _, rfl, rfl, rfl⟩
  · have h11' : ¬ (k s).toInt ≤ 11 := by rw [ek, nI_toInt (by omega)]; omega
    have ez0 : z s = 0 := (wf1 hW hs).2.2.2.2 (by omega)
    refine ⟨a, a, ?_, ?_, rfl⟩
    · rw [L_X0_cellsWithTag_13, sizeOf_n hs, ez0, Option.bind_some, if_pos (by decide)]
    · rw [L_X6_tagged_13, isRowM_n hB hs, if_neg h11', Option.bind_some, if_pos rfl]
theorem tagged_s (hW : WFu (k, z, t, n, g, ks, kb, kw, kc, ss, hs, hn)) (hB : RBu (k, z, t, n, g, ks, kb, kw, kc, ss, hs, hn) w 0) (x : Int32) : ∃ v, f_X0_cellsWithTag z t n x = some v ∧ f_X6_tagged w x = some v := by
  unfold f_X0_cellsWithTag f_X6_tagged
  have : ∃ r p, L_X0_cellsWithTag_4 z t n x 4000 0 0 = some r ∧ L_X6_tagged_4 w x 4000 0 0 = some p ∧ r = p := by
    refine lock (fun f q a => L_X0_cellsWithTag_4 z t n x f a (nI q)) (fun f q a => L_X6_tagged_4 w x f a (nI q)) (fun _ a b => a = b) (fun r p => r = p) 6 ?_ ?_ 6 0 4000 4000 0 0 (by omega) (by omega) (by omega) rfl
    · rintro f g a b rfl
      exact ⟨a, a, rfl, rfl, rfl⟩
    · rintro f g q a b hq rfl
      refine Or.inl ?_
      show ∃ s' t', _ ∧ L_X0_cellsWithTag_4 z t n x (f + 1) a (nI q) = L_X0_cellsWithTag_4 z t n x f s' (nI (q + 1)) ∧ L_X6_tagged_4 w x (g + 1) a (nI q) = L_X6_tagged_4 w x g t' (nI (q + 1))
      obtain ⟨r, p, e1, e2, rfl⟩ := tagIn_s hW hB x hq a
      rw [L_X0_cellsWithTag_4, L_X6_tagged_4, n6, if_neg (nI_ge hq (by omega)), if_neg (nI_ge hq (by omega)), e1, e2]
      simp only [Option.bind_some, nI_1]
      exact ⟨_, _, rfl, rfl, rfl⟩
  obtain ⟨r, p, e1, e2, rfl⟩ := this
  rw [e1, e2]
  exact ⟨r, rfl, rfl⟩
end TG1
theorem sim_tag {b_kinds : Nat → Int32} {b_sizes : Nat → Int32} {b_sorts : Nat → Int32} {b_numbers : Nat → Int64} {b_weights : Nat → Int32} {b_keySlots : Nat → Int32} {b_keyBys : Nat → Int32} {b_keyWays : Nat → Int32} {b_keyCount : Int32} {b_sheetSet : Int32} {b_handSort : Int32} {b_handNumber : Int64} {x_imageRandoms : Nat → Int32} {x_random : Int32} {h_next : Int32} {h_count : Int32} {k_places : Nat → Int32} {k_positions : Nat → Int32} {k_count : Int32} {w_w : Nat → Int64} {w_imageSeed : Nat → Int32} {w_isKept : Nat → Int32} {w_undos : Int32} {w_seed : Int32} {w_entries : Int32} {w_bookPlace : Nat → Int32} {w_bookPosition : Nat → Int32} {P_hs : HT} (hR : Rel (b_kinds, b_sizes, b_sorts, b_numbers, b_weights, b_keySlots, b_keyBys, b_keyWays, b_keyCount, b_sheetSet, b_handSort, b_handNumber) x_imageRandoms x_random h_next h_count P_hs k_places k_positions k_count w_w w_imageSeed w_isKept w_undos w_seed w_entries w_bookPlace w_bookPosition) (x1 : Int32) (x2 : Int32) : ∃ (zc : Int32) (zm : Int32), f_X5_tag b_sizes b_sorts b_numbers b_weights x1 x2 = some zc ∧ f_X6_tag w_w x1 x2 = some zm ∧ zc = zm ∧ Rel (b_kinds, b_sizes, b_sorts, b_numbers, b_weights, b_keySlots, b_keyBys, b_keyWays, b_keyCount, b_sheetSet, b_handSort, b_handNumber) x_imageRandoms x_random h_next h_count P_hs k_places k_positions k_count w_w w_imageSeed w_isKept w_undos w_seed w_entries w_bookPlace w_bookPosition := by
  have hW := hR.1
  have hB := hR.2.1
  suffices h : ∃ v, f_X5_tag b_sizes b_sorts b_numbers b_weights x1 x2 = some v ∧ f_X6_tag w_w x1 x2 = some v by
    obtain ⟨v, h1, h2⟩ := h
    exact ⟨v, v, h1, h2, rfl, hR⟩
  unfold f_X5_tag f_X6_tag
  rcases isTag_v x1 with ⟨h1, h2⟩ | ⟨τ, hτ, rfl, h1, h2⟩
  · rw [h1, h2]; exact ⟨_, rfl, rfl⟩
  rw [h1, h2]
  simp only [Option.bind_some, if_neg z10]
  by_cases h0 : x2 = 0
  · rw [if_pos h0, if_pos h0, n172, nI_add, if_pos (ib_n (by omega) (by omega)), nI_clamp (by omega), rb6 hB hτ, t6432]
    unfold f_X0_weightOf
    rw [h1, Option.bind_some, if_neg z10, if_pos (ib_n (by omega) (by omega)), nI_clamp (by omega)]
    exact ⟨_, rfl, rfl⟩
  rw [if_neg h0, if_neg h0]
  by_cases h0 : x2 = 1
  · have hv : 0 ≤ (Int32.toInt64 (nI τ)).toInt ∧ (Int32.toInt64 (nI τ)).toInt ≤ 7 := by rw [nJ64 (by omega)]; omega
    obtain ⟨p, e1, e2⟩ := heft_s (fun t ht => wf3 hW ht) hv
    obtain ⟨q, e3, e4⟩ := heftM_s (fun t ht => wf3 hW ht) (fun t ht => rb6 hB ht) hv
    rw [if_pos h0, if_pos h0, e1, e3]
    have : q.toInt32 = p := by
      refine k32 ?_
      have hb' := Int32.toInt_lt p
      have hb2 := Int32.le_toInt p
      rw [Int64.toInt_toInt32, e4, ← e2, Int.bmod_def]
      omega
    rw [Option.bind_some, Option.bind_some, this]
    exact ⟨_, rfl, rfl⟩
  rw [if_neg h0, if_neg h0]
  by_cases h0 : x2 = 2
  · obtain ⟨v, e1, e2⟩ := tagged_s hW hB (nI τ)
    rw [if_pos h0, if_pos h0, e1, e2]
    exact ⟨_, rfl, rfl⟩
  rw [if_neg h0, if_neg h0]
  exact ⟨_, rfl, rfl⟩
theorem sim_keyAt {b_kinds : Nat → Int32} {b_sizes : Nat → Int32} {b_sorts : Nat → Int32} {b_numbers : Nat → Int64} {b_weights : Nat → Int32} {b_keySlots : Nat → Int32} {b_keyBys : Nat → Int32} {b_keyWays : Nat → Int32} {b_keyCount : Int32} {b_sheetSet : Int32} {b_handSort : Int32} {b_handNumber : Int64} {x_imageRandoms : Nat → Int32} {x_random : Int32} {h_next : Int32} {h_count : Int32} {k_places : Nat → Int32} {k_positions : Nat → Int32} {k_count : Int32} {w_w : Nat → Int64} {w_imageSeed : Nat → Int32} {w_isKept : Nat → Int32} {w_undos : Int32} {w_seed : Int32} {w_entries : Int32} {w_bookPlace : Nat → Int32} {w_bookPosition : Nat → Int32} {P_hs : HT} (hR : Rel (b_kinds, b_sizes, b_sorts, b_numbers, b_weights, b_keySlots, b_keyBys, b_keyWays, b_keyCount, b_sheetSet, b_handSort, b_handNumber) x_imageRandoms x_random h_next h_count P_hs k_places k_positions k_count w_w w_imageSeed w_isKept w_undos w_seed w_entries w_bookPlace w_bookPosition) (x1 : Int32) (x2 : Int32) : ∃ (zc : Int32) (zm : Int32), f_X5_keyAt b_keySlots b_keyBys b_keyWays b_keyCount x1 x2 = some zc ∧ f_X6_keyAt w_w x1 x2 = some zm ∧ zc = zm ∧ Rel (b_kinds, b_sizes, b_sorts, b_numbers, b_weights, b_keySlots, b_keyBys, b_keyWays, b_keyCount, b_sheetSet, b_handSort, b_handNumber) x_imageRandoms x_random h_next h_count P_hs k_places k_positions k_count w_w w_imageSeed w_isKept w_undos w_seed w_entries w_bookPlace w_bookPosition := by
  have hW := hR.1
  have hB := hR.2.1
  suffices h : ∃ v, f_X5_keyAt b_keySlots b_keyBys b_keyWays b_keyCount x1 x2 = some v ∧ f_X6_keyAt w_w x1 x2 = some v by
    obtain ⟨v, h1, h2⟩ := h
    exact ⟨v, v, h1, h2, rfl, hR⟩
  obtain ⟨K, hK, eK⟩ := kcin hW
  unfold f_X5_keyAt f_X6_keyAt
  have e0 : (0 : Int64).toInt = 0 := rfl
  rw [keysM_s hB, eK]
  simp only [Option.bind_some, in_v, t64, e0, sub1 (show 0 ≤ (nI K).toInt by rw [nI_toInt (by omega)]; omega)]
  rw [nI_toInt (show K < 2 ^ 31 by omega)]
  by_cases hx : 0 ≤ x1.toInt ∧ x1.toInt < K
  · obtain ⟨j, hj, rfl⟩ := inN (N := K) hx.1 (by omega)
    have h4 := rb4 hB (show j < 4 by omega)
    have e2 : (2 : Int64).toInt = 2 := rfl
    rw [if_neg (nI_pos (by omega)), if_pos (nI_lt hj (by omega)), nI_toInt (by omega), if_pos (show (0 : Int) ≤ j ∧ (j : Int) ≤ K - 1 by omega)]
    simp only [if_neg z10, e2, keySlot_s (show j < 4 by omega), keyBy_s (show j < 4 by omega), keyWay_s (show j < 4 by omega), Option.bind_some]
    by_cases hw : 0 ≤ x2.toInt ∧ x2.toInt ≤ 2
    · obtain ⟨y, hy, rfl⟩ := inN (N := 3) hw.1 (by omega)
      rw [if_pos hw]
      have e3 : ((157 : Int32) + ((3 : Int32) * nI j)) + nI y = nI (157 + 3 * j + y) := by rw [n157, n3, pk_mul, nI_add, nI_add]
      rw [e3, if_neg z10, if_pos (ib_n (by omega) (by omega)), nI_clamp (by omega)]
      have hy3 : y = 0 ∨ y = 1 ∨ y = 2 := by omega
      rcases hy3 with rfl | rfl | rfl
      · rw [show 157 + 3 * j + 0 = 157 + 3 * j by omega, h4.1, t6432]; exact ⟨_, rfl, rfl⟩
      · rw [show 157 + 3 * j + 1 = 158 + 3 * j by omega, h4.2.1, t6432]; exact ⟨_, rfl, rfl⟩
      · rw [show 157 + 3 * j + 2 = 159 + 3 * j by omega, h4.2.2, t6432]; exact ⟨_, rfl, rfl⟩
    · rw [if_neg hw, if_neg (fun e => hw (by rw [e]; decide)), if_neg (fun e => hw (by rw [e]; decide)), if_neg (fun e => hw (by rw [e]; decide))]
      exact ⟨_, rfl, rfl⟩
  · rw [if_neg (show ¬ (0 ≤ x1.toInt ∧ x1.toInt ≤ (K : Int) - 1) by omega)]
    by_cases h0 : x1 < 0
    · rw [if_pos h0]; exact ⟨_, rfl, rfl⟩
    · rw [if_neg h0, if_neg]
      · exact ⟨_, rfl, rfl⟩
      · intro h1
        rw [lt32] at h0 h1
        rw [nI_toInt (by omega)] at h1
        have e00 : (0 : Int32).toInt = 0 := rfl
        omega
theorem sim_tear {b_kinds : Nat → Int32} {b_sizes : Nat → Int32} {b_sorts : Nat → Int32} {b_numbers : Nat → Int64} {b_weights : Nat → Int32} {b_keySlots : Nat → Int32} {b_keyBys : Nat → Int32} {b_keyWays : Nat → Int32} {b_keyCount : Int32} {b_sheetSet : Int32} {b_handSort : Int32} {b_handNumber : Int64} {x_imageRandoms : Nat → Int32} {x_random : Int32} {h_next : Int32} {h_count : Int32} {k_places : Nat → Int32} {k_positions : Nat → Int32} {k_count : Int32} {w_w : Nat → Int64} {w_imageSeed : Nat → Int32} {w_isKept : Nat → Int32} {w_undos : Int32} {w_seed : Int32} {w_entries : Int32} {w_bookPlace : Nat → Int32} {w_bookPosition : Nat → Int32} {P_hs : HT} (hR : Rel (b_kinds, b_sizes, b_sorts, b_numbers, b_weights, b_keySlots, b_keyBys, b_keyWays, b_keyCount, b_sheetSet, b_handSort, b_handNumber) x_imageRandoms x_random h_next h_count P_hs k_places k_positions k_count w_w w_imageSeed w_isKept w_undos w_seed w_entries w_bookPlace w_bookPosition) : ∃ (zc : Int32 × Int32) (zm : Int32 × Int32), f_X5_tear k_count = some zc ∧ f_X6_tear w_entries = some zm ∧ zc.1 = zm.1 ∧ Rel (b_kinds, b_sizes, b_sorts, b_numbers, b_weights, b_keySlots, b_keyBys, b_keyWays, b_keyCount, b_sheetSet, b_handSort, b_handNumber) x_imageRandoms x_random h_next h_count P_hs k_places k_positions zc.2 w_w w_imageSeed w_isKept w_undos w_seed zm.2 w_bookPlace w_bookPosition := by
  exact ⟨_, _, rfl, rfl, hR.2.2.2.2.2.1, hR.1, hR.2.1, hR.2.2.1, hR.2.2.2.1, hR.2.2.2.2.1, rfl, 0, by omega, rfl, fun j hj => by omega⟩
theorem sim_seed {b_kinds : Nat → Int32} {b_sizes : Nat → Int32} {b_sorts : Nat → Int32} {b_numbers : Nat → Int64} {b_weights : Nat → Int32} {b_keySlots : Nat → Int32} {b_keyBys : Nat → Int32} {b_keyWays : Nat → Int32} {b_keyCount : Int32} {b_sheetSet : Int32} {b_handSort : Int32} {b_handNumber : Int64} {x_imageRandoms : Nat → Int32} {x_random : Int32} {h_next : Int32} {h_count : Int32} {k_places : Nat → Int32} {k_positions : Nat → Int32} {k_count : Int32} {w_w : Nat → Int64} {w_imageSeed : Nat → Int32} {w_isKept : Nat → Int32} {w_undos : Int32} {w_seed : Int32} {w_entries : Int32} {w_bookPlace : Nat → Int32} {w_bookPosition : Nat → Int32} {P_hs : HT} (hR : Rel (b_kinds, b_sizes, b_sorts, b_numbers, b_weights, b_keySlots, b_keyBys, b_keyWays, b_keyCount, b_sheetSet, b_handSort, b_handNumber) x_imageRandoms x_random h_next h_count P_hs k_places k_positions k_count w_w w_imageSeed w_isKept w_undos w_seed w_entries w_bookPlace w_bookPosition) (x1 : Int32) : ∃ (zc : Int32 × Int32) (zm : Int32 × Int32), f_X5_seed x_random x1 = some zc ∧ f_X6_seed w_seed x1 = some zm ∧ zc.1 = zm.1 ∧ Rel (b_kinds, b_sizes, b_sorts, b_numbers, b_weights, b_keySlots, b_keyBys, b_keyWays, b_keyCount, b_sheetSet, b_handSort, b_handNumber) x_imageRandoms zc.2 h_next h_count P_hs k_places k_positions k_count w_w w_imageSeed w_isKept w_undos zm.2 w_entries w_bookPlace w_bookPosition := by
  obtain ⟨hW, hB, hH, hI, hS, hK⟩ := hR
  unfold f_X5_seed f_X6_seed
  by_cases h : 0 ≤ x1
  · have h' : ¬ x1 < 0 := by rw [lt32]; rw [le32] at h; omega
    rw [if_pos h]
    first
      | rw [if_neg h']
      | rw [if_pos h]
    refine ⟨_, _, rfl, rfl, hS.1.symm, hW, hB, hH, hI, ⟨rfl, ?_⟩, hK⟩
    rw [le32] at h
    exact h
  · have h' : x1 < 0 := by rw [lt32]; rw [le32] at h; omega
    rw [if_neg h]
    first
      | rw [if_pos h']
      | rw [if_neg h]
    exact ⟨_, _, rfl, rfl, rfl, hW, hB, hH, hI, hS, hK⟩
