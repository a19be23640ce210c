/-! told -/
set_option maxHeartbeats 4000000 in
theorem sim_told {b_kinds : Nat → Int32} {b_sizes : Nat → Int32} {b_sorts : Nat → Int32} {b_numbers : Nat → Int64} {b_weights : Nat → Int32} {b_keySlots : Nat → Int32} {b_keyBys : Nat → Int32} {b_keyWays : Nat → Int32} {b_keyCount : Int32} {b_sheetSet : Int32} {b_handSort : Int32} {b_handNumber : Int64} {x_imageRandoms : Nat → Int32} {x_random : Int32} {h_next : Int32} {h_count : Int32} {k_places : Nat → Int32} {k_positions : Nat → Int32} {k_count : Int32} {w_w : Nat → Int64} {w_imageSeed : Nat → Int32} {w_isKept : Nat → Int32} {w_undos : Int32} {w_seed : Int32} {w_entries : Int32} {w_bookPlace : Nat → Int32} {w_bookPosition : Nat → Int32} {P_hs : HT} (hR : Rel (b_kinds, b_sizes, b_sorts, b_numbers, b_weights, b_keySlots, b_keyBys, b_keyWays, b_keyCount, b_sheetSet, b_handSort, b_handNumber) x_imageRandoms x_random h_next h_count P_hs k_places k_positions k_count w_w w_imageSeed w_isKept w_undos w_seed w_entries w_bookPlace w_bookPosition) (r_lesser : Nat → Int32) (r_positions : Nat → Int32) (r_places : Nat → Int32) (r_longest : Nat → Int32) (r_length : Int32) (q_lesser : Nat → Int32) (q_positions : Nat → Int32) (q_places : Nat → Int32) (q_length : Int32) (w_scratch : Nat → Int32) (x1 : Int32) : ∃ (zc : Int32 × (Nat → Int32) × (Nat → Int32) × (Nat → Int32) × (Nat → Int32) × Int32 × (Nat → Int32) × (Nat → Int32) × (Nat → Int32) × Int32) (zm : Int32 × (Nat → Int32)), f_X5_told x_random b_kinds b_sizes b_sorts b_numbers b_weights b_keySlots b_keyBys b_keyWays b_keyCount b_sheetSet h_count k_places k_positions k_count r_lesser r_positions r_places r_longest r_length q_lesser q_positions q_places q_length x1 = some zc ∧ f_X6_told w_w w_undos w_seed w_entries w_bookPlace w_bookPosition w_scratch x1 = some zm ∧ zc.1 = zm.1 ∧ Rel (b_kinds, b_sizes, b_sorts, b_numbers, b_weights, b_keySlots, b_keyBys, b_keyWays, b_keyCount, b_sheetSet, b_handSort, b_handNumber) x_imageRandoms x_random h_next h_count P_hs k_places k_positions k_count w_w w_imageSeed w_isKept w_undos w_seed w_entries w_bookPlace w_bookPosition := by
  have hW := hR.1
  have hB := hR.2.1
  have hH := hR.2.2.1
  have hS := hR.2.2.2.2.1
  have hK := hR.2.2.2.2.2
  suffices h : ∃ zc zm, f_X5_told x_random b_kinds b_sizes b_sorts b_numbers b_weights b_keySlots b_keyBys b_keyWays b_keyCount b_sheetSet h_count k_places k_positions k_count r_lesser r_positions r_places r_longest r_length q_lesser q_positions q_places q_length x1 = some zc ∧ f_X6_told w_w w_undos w_seed w_entries w_bookPlace w_bookPosition w_scratch x1 = some zm ∧ zc.1 = zm.1 by
    obtain ⟨zc, zm, h1, h2, h3⟩ := h
    exact ⟨zc, zm, h1, h2, h3, hR⟩
  have hord := ord_s hW hB
  unfold f_X5_told f_X6_told
  by_cases c0 : x1 = 0
  · subst c0
    rw [show f_X6_in (Int32.toInt64 0) 2 10 = some 0 by decide, Option.bind_some]
    rw [if_pos rfl, if_pos rfl, if_pos rfl, keysM_s hB]
    exact ⟨_, _, rfl, rfl, rfl⟩
  by_cases c1 : x1 = 1
  · subst c1
    rw [show f_X6_in (Int32.toInt64 1) 2 10 = some 0 by decide, Option.bind_some]
    simp only [if_neg (show ¬ (1 : Int32) = 0 by decide), if_true]
    rw [sheetM_s hB]
    exact ⟨_, _, rfl, rfl, rfl⟩
  by_cases c2 : x1 = 2
  · subst c2
    rw [show f_X6_in (Int32.toInt64 2) 2 10 = some 1 by decide, Option.bind_some]
    rw [if_neg z10]
    simp only [if_neg (show ¬ (2 : Int32) = 0 by decide), if_neg (show ¬ (2 : Int32) = 1 by decide), if_true]
    rcases hord with ⟨e1, e2⟩ | ⟨m, hm, hF, e1, e2, hC, hY⟩
    · rw [e1, e2]
      exact ⟨_, _, rfl, rfl, rfl⟩
    · rw [e1, e2, Option.bind_some, Option.bind_some, if_neg (m1n hm)]
      exact ⟨_, _, rfl, rfl, rfl⟩
  by_cases c3 : x1 = 3
  · subst c3
    rw [show f_X6_in (Int32.toInt64 3) 2 10 = some 1 by decide, Option.bind_some]
    rw [if_neg z10]
    simp only [if_neg (show ¬ (3 : Int32) = 0 by decide), if_neg (show ¬ (3 : Int32) = 1 by decide), if_neg (show ¬ (3 : Int32) = 2 by decide), if_true]
    rcases hord with ⟨e1, e2⟩ | ⟨m, hm, hF, e1, e2, hC, hY⟩
    · have d1 : f_X5_disorder b_kinds b_sizes b_sorts b_numbers b_weights b_keySlots b_keyBys b_keyWays b_keyCount b_sheetSet r_lesser r_positions r_places r_longest r_length 3 = some (-1, r_lesser, r_positions, r_places, r_longest, -1) := by
        unfold f_X5_disorder
        rw [sortP_no e1]
        rfl
      rw [d1, e2]
      exact ⟨_, _, rfl, rfl, rfl⟩
    · obtain ⟨le, po, pl, e3, hle, hpo, hpl⟩ := sortP_s hm e1 (hC 15) r_lesser r_positions r_places r_length
      have fit : f_X4_isFit (nI m) = some 1 := by unfold f_X4_isFit; rw [if_neg (m1n hm)]
      have mne : ¬ nI m = -1 := m1n hm
      have g1 := alikePairs_s hm hle
      have g2 := pairs_s hm (hY 15) 0 (fun a b => decide ((vP b_weights b_sorts b_numbers b_keySlots b_keyBys b_keyWays b_keyCount 15) a = (vP b_weights b_sorts b_numbers b_keySlots b_keyBys b_keyWays b_keyCount 15) b)) (fun a b _ _ => by rw [decide_eq_true_eq]; exact sg_z)
      generalize nI (sm (fun p => cn (fun q => decide ((vP b_weights b_sorts b_numbers b_keySlots b_keyBys b_keyWays b_keyCount 15) q = (vP b_weights b_sorts b_numbers b_keySlots b_keyBys b_keyWays b_keyCount 15) p)) p) m) = v at g1 g2
      have d1 : f_X5_disorder b_kinds b_sizes b_sorts b_numbers b_weights b_keySlots b_keyBys b_keyWays b_keyCount b_sheetSet r_lesser r_positions r_places r_longest r_length 3 = some (v, le, po, pl, r_longest, nI m) := by
        unfold f_X5_disorder
        rw [e3, Option.bind_some, show f_X4_isFit (le, po, pl, nI m).2.2.2 = some 1 from fit, Option.bind_some, if_neg z10, if_pos rfl, show f_X4_alikePairs (le, po, pl, nI m).1 (le, po, pl, nI m).2.2.2 = _ from g1]
        rfl
      have d2 : f_X6_ofOrder w_w w_scratch 3 (nI m) = some (v, w_scratch) := by
        unfold f_X6_ofOrder
        rw [if_pos rfl, g2]
        rfl
      rw [d1, e2, Option.bind_some, Option.bind_some, if_neg mne, d2]
      exact ⟨_, _, rfl, rfl, rfl⟩
  by_cases c4 : x1 = 4
  · subst c4
    rw [show f_X6_in (Int32.toInt64 4) 2 10 = some 1 by decide, Option.bind_some]
    rw [if_neg z10]
    simp only [if_neg (show ¬ (4 : Int32) = 0 by decide), if_neg (show ¬ (4 : Int32) = 1 by decide), if_neg (show ¬ (4 : Int32) = 2 by decide), if_neg (show ¬ (4 : Int32) = 3 by decide), if_true]
    rcases hord with ⟨e1, e2⟩ | ⟨m, hm, hF, e1, e2, hC, hY⟩
    · have d1 : f_X5_disorder b_kinds b_sizes b_sorts b_numbers b_weights b_keySlots b_keyBys b_keyWays b_keyCount b_sheetSet r_lesser r_positions r_places r_longest r_length 4 = some (-1, r_lesser, r_positions, r_places, r_longest, -1) := by
        unfold f_X5_disorder
        rw [sortP_no e1]
        rfl
      rw [d1, e2]
      exact ⟨_, _, rfl, rfl, rfl⟩
    · obtain ⟨le, po, pl, e3, hle, hpo, hpl⟩ := sortP_s hm e1 (hC 15) r_lesser r_positions r_places r_length
      have fit : f_X4_isFit (nI m) = some 1 := by unfold f_X4_isFit; rw [if_neg (m1n hm)]
      have mne : ¬ nI m = -1 := m1n hm
      have g1 := inversions_s hm hle
      have g2 := pairs_s hm (hY 15) 1 (fun a b => decide ((vP b_weights b_sorts b_numbers b_keySlots b_keyBys b_keyWays b_keyCount 15) b < (vP b_weights b_sorts b_numbers b_keySlots b_keyBys b_keyWays b_keyCount 15) a)) (fun a b _ _ => by
        rw [decide_eq_true_eq]
        rcases sg_cases ((vP b_weights b_sorts b_numbers b_keySlots b_keyBys b_keyWays b_keyCount 15) a) ((vP b_weights b_sorts b_numbers b_keySlots b_keyBys b_keyWays b_keyCount 15) b) with ⟨h, e⟩ | ⟨h, e⟩ | ⟨h, e⟩ <;> rw [e]
        · exact ⟨fun q => absurd q (by decide), fun q => by omega⟩
        · exact ⟨fun q => absurd q (by decide), fun q => by omega⟩
        · exact ⟨fun _ => h, fun _ => rfl⟩)
      generalize nI (sm (fun p => cn (fun q => decide ((vP b_weights b_sorts b_numbers b_keySlots b_keyBys b_keyWays b_keyCount 15) p < (vP b_weights b_sorts b_numbers b_keySlots b_keyBys b_keyWays b_keyCount 15) q)) p) m) = v at g1 g2
      have d1 : f_X5_disorder b_kinds b_sizes b_sorts b_numbers b_weights b_keySlots b_keyBys b_keyWays b_keyCount b_sheetSet r_lesser r_positions r_places r_longest r_length 4 = some (v, le, po, pl, r_longest, nI m) := by
        unfold f_X5_disorder
        rw [e3, Option.bind_some, show f_X4_isFit (le, po, pl, nI m).2.2.2 = some 1 from fit, Option.bind_some, if_neg z10, if_neg (show ¬ (4 : Int32) = 3 by decide), if_pos rfl, show f_X4_inversions (le, po, pl, nI m).1 (le, po, pl, nI m).2.2.2 = _ from g1]
        rfl
      have d2 : f_X6_ofOrder w_w w_scratch 4 (nI m) = some (v, w_scratch) := by
        unfold f_X6_ofOrder
        rw [if_neg (show ¬ (4 : Int32) = 3 by decide), if_pos rfl, g2]
        rfl
      rw [d1, e2, Option.bind_some, Option.bind_some, if_neg mne, d2]
      exact ⟨_, _, rfl, rfl, rfl⟩
  by_cases c5 : x1 = 5
  · subst c5
    rw [show f_X6_in (Int32.toInt64 5) 2 10 = some 1 by decide, Option.bind_some]
    rw [if_neg z10]
    simp only [if_neg (show ¬ (5 : Int32) = 0 by decide), if_neg (show ¬ (5 : Int32) = 1 by decide), if_neg (show ¬ (5 : Int32) = 2 by decide), if_neg (show ¬ (5 : Int32) = 3 by decide), if_neg (show ¬ (5 : Int32) = 4 by decide), if_true]
    rcases hord with ⟨e1, e2⟩ | ⟨m, hm, hF, e1, e2, hC, hY⟩
    · have d1 : f_X5_disorder b_kinds b_sizes b_sorts b_numbers b_weights b_keySlots b_keyBys b_keyWays b_keyCount b_sheetSet r_lesser r_positions r_places r_longest r_length 5 = some (-1, r_lesser, r_positions, r_places, r_longest, -1) := by
        unfold f_X5_disorder
        rw [sortP_no e1]
        rfl
      rw [d1, e2]
      exact ⟨_, _, rfl, rfl, rfl⟩
    · obtain ⟨le, po, pl, e3, hle, hpo, hpl⟩ := sortP_s hm e1 (hC 15) r_lesser r_positions r_places r_length
      have fit : f_X4_isFit (nI m) = some 1 := by unfold f_X4_isFit; rw [if_neg (m1n hm)]
      have mne : ¬ nI m = -1 := m1n hm
      obtain ⟨v, g1, g2⟩ := sections_s hm hle (hY 15)
      have d1 : f_X5_disorder b_kinds b_sizes b_sorts b_numbers b_weights b_keySlots b_keyBys b_keyWays b_keyCount b_sheetSet r_lesser r_positions r_places r_longest r_length 5 = some (v, le, po, pl, r_longest, nI m) := by
        unfold f_X5_disorder
        rw [e3, Option.bind_some, show f_X4_isFit (le, po, pl, nI m).2.2.2 = some 1 from fit, Option.bind_some, if_neg z10, if_neg (show ¬ (5 : Int32) = 3 by decide), if_neg (show ¬ (5 : Int32) = 4 by decide), if_pos rfl, show f_X4_sections (le, po, pl, nI m).1 (le, po, pl, nI m).2.2.2 = _ from g1]
        rfl
      have d2 : f_X6_ofOrder w_w w_scratch 5 (nI m) = some (v, w_scratch) := by
        unfold f_X6_ofOrder
        rw [if_neg (show ¬ (5 : Int32) = 3 by decide), if_neg (show ¬ (5 : Int32) = 4 by decide), if_pos rfl, g2]
        rfl
      rw [d1, e2, Option.bind_some, Option.bind_some, if_neg mne, d2]
      exact ⟨_, _, rfl, rfl, rfl⟩
  by_cases c6 : x1 = 6
  · subst c6
    rw [show f_X6_in (Int32.toInt64 6) 2 10 = some 1 by decide, Option.bind_some]
    rw [if_neg z10]
    simp only [if_neg (show ¬ (6 : Int32) = 0 by decide), if_neg (show ¬ (6 : Int32) = 1 by decide), if_neg (show ¬ (6 : Int32) = 2 by decide), if_neg (show ¬ (6 : Int32) = 3 by decide), if_neg (show ¬ (6 : Int32) = 4 by decide), if_neg (show ¬ (6 : Int32) = 5 by decide), if_true]
    rcases hord with ⟨e1, e2⟩ | ⟨m, hm, hF, e1, e2, hC, hY⟩
    · have d1 : f_X5_disorder b_kinds b_sizes b_sorts b_numbers b_weights b_keySlots b_keyBys b_keyWays b_keyCount b_sheetSet r_lesser r_positions r_places r_longest r_length 6 = some (-1, r_lesser, r_positions, r_places, r_longest, -1) := by
        unfold f_X5_disorder
        rw [sortP_no e1]
        rfl
      rw [d1, e2]
      exact ⟨_, _, rfl, rfl, rfl⟩
    · obtain ⟨le, po, pl, e3, hle, hpo, hpl⟩ := sortP_s hm e1 (hC 15) r_lesser r_positions r_places r_length
      have fit : f_X4_isFit (nI m) = some 1 := by unfold f_X4_isFit; rw [if_neg (m1n hm)]
      have mne : ¬ nI m = -1 := m1n hm
      obtain ⟨zc, zm, g1, g2, g3⟩ := longest_s hm hle (hY 15) r_longest w_scratch
      have d1 : f_X5_disorder b_kinds b_sizes b_sorts b_numbers b_weights b_keySlots b_keyBys b_keyWays b_keyCount b_sheetSet r_lesser r_positions r_places r_longest r_length 6 = some (zc.1, le, po, pl, zc.2, nI m) := by
        unfold f_X5_disorder
        rw [e3, Option.bind_some, show f_X4_isFit (le, po, pl, nI m).2.2.2 = some 1 from fit, Option.bind_some, if_neg z10, if_neg (show ¬ (6 : Int32) = 3 by decide), if_neg (show ¬ (6 : Int32) = 4 by decide), if_neg (show ¬ (6 : Int32) = 5 by decide), if_pos rfl, show f_X4_longestSorted (le, po, pl, nI m).1 r_longest (le, po, pl, nI m).2.2.2 = _ from g1]
        rfl
      have d2 : f_X6_ofOrder w_w w_scratch 6 (nI m) = some (zm.1, zm.2) := by
        unfold f_X6_ofOrder
        rw [if_neg (show ¬ (6 : Int32) = 3 by decide), if_neg (show ¬ (6 : Int32) = 4 by decide), if_neg (show ¬ (6 : Int32) = 5 by decide), if_pos rfl, g2]
        rfl
      rw [d1, e2, Option.bind_some, Option.bind_some, if_neg mne, d2]
      exact ⟨_, _, rfl, rfl, g3⟩
  by_cases c7 : x1 = 7
  · subst c7
    rw [show f_X6_in (Int32.toInt64 7) 2 10 = some 1 by decide, Option.bind_some]
    rw [if_neg z10]
    simp only [if_neg (show ¬ (7 : Int32) = 0 by decide), if_neg (show ¬ (7 : Int32) = 1 by decide), if_neg (show ¬ (7 : Int32) = 2 by decide), if_neg (show ¬ (7 : Int32) = 3 by decide), if_neg (show ¬ (7 : Int32) = 4 by decide), if_neg (show ¬ (7 : Int32) = 5 by decide), if_neg (show ¬ (7 : Int32) = 6 by decide), if_true]
    rcases hord with ⟨e1, e2⟩ | ⟨m, hm, hF, e1, e2, hC, hY⟩
    · have d1 : f_X5_disorder b_kinds b_sizes b_sorts b_numbers b_weights b_keySlots b_keyBys b_keyWays b_keyCount b_sheetSet r_lesser r_positions r_places r_longest r_length 7 = some (-1, r_lesser, r_positions, r_places, r_longest, -1) := by
        unfold f_X5_disorder
        rw [sortP_no e1]
        rfl
      rw [d1, e2]
      exact ⟨_, _, rfl, rfl, rfl⟩
    · obtain ⟨le, po, pl, e3, hle, hpo, hpl⟩ := sortP_s hm e1 (hC 15) r_lesser r_positions r_places r_length
      have fit : f_X4_isFit (nI m) = some 1 := by unfold f_X4_isFit; rw [if_neg (m1n hm)]
      have mne : ¬ nI m = -1 := m1n hm
      obtain ⟨v, g1, g2⟩ := swaps_s hm hpo (hY 15)
      have d1 : f_X5_disorder b_kinds b_sizes b_sorts b_numbers b_weights b_keySlots b_keyBys b_keyWays b_keyCount b_sheetSet r_lesser r_positions r_places r_longest r_length 7 = some (v, le, po, pl, r_longest, nI m) := by
        unfold f_X5_disorder
        rw [e3, Option.bind_some, show f_X4_isFit (le, po, pl, nI m).2.2.2 = some 1 from fit, Option.bind_some, if_neg z10, if_neg (show ¬ (7 : Int32) = 3 by decide), if_neg (show ¬ (7 : Int32) = 4 by decide), if_neg (show ¬ (7 : Int32) = 5 by decide), if_neg (show ¬ (7 : Int32) = 6 by decide), if_pos rfl, show f_X4_exchanges (le, po, pl, nI m).2.1 (le, po, pl, nI m).2.2.2 = _ from g1]
        rfl
      have d2 : f_X6_ofOrder w_w w_scratch 7 (nI m) = some (v, w_scratch) := by
        unfold f_X6_ofOrder
        rw [if_neg (show ¬ (7 : Int32) = 3 by decide), if_neg (show ¬ (7 : Int32) = 4 by decide), if_neg (show ¬ (7 : Int32) = 5 by decide), if_neg (show ¬ (7 : Int32) = 6 by decide), if_pos rfl, g2]
        rfl
      rw [d1, e2, Option.bind_some, Option.bind_some, if_neg mne, d2]
      exact ⟨_, _, rfl, rfl, rfl⟩
  by_cases c8 : x1 = 8
  · subst c8
    rw [show f_X6_in (Int32.toInt64 8) 2 10 = some 1 by decide, Option.bind_some]
    rw [if_neg z10]
    simp only [if_neg (show ¬ (8 : Int32) = 0 by decide), if_neg (show ¬ (8 : Int32) = 1 by decide), if_neg (show ¬ (8 : Int32) = 2 by decide), if_neg (show ¬ (8 : Int32) = 3 by decide), if_neg (show ¬ (8 : Int32) = 4 by decide), if_neg (show ¬ (8 : Int32) = 5 by decide), if_neg (show ¬ (8 : Int32) = 6 by decide), if_neg (show ¬ (8 : Int32) = 7 by decide), if_true]
    rcases hord with ⟨e1, e2⟩ | ⟨m, hm, hF, e1, e2, hC, hY⟩
    · have d1 : f_X5_disorder b_kinds b_sizes b_sorts b_numbers b_weights b_keySlots b_keyBys b_keyWays b_keyCount b_sheetSet r_lesser r_positions r_places r_longest r_length 8 = some (-1, r_lesser, r_positions, r_places, r_longest, -1) := by
        unfold f_X5_disorder
        rw [sortP_no e1]
        rfl
      rw [d1, e2]
      exact ⟨_, _, rfl, rfl, rfl⟩
    · obtain ⟨le, po, pl, e3, hle, hpo, hpl⟩ := sortP_s hm e1 (hC 15) r_lesser r_positions r_places r_length
      have fit : f_X4_isFit (nI m) = some 1 := by unfold f_X4_isFit; rw [if_neg (m1n hm)]
      have mne : ¬ nI m = -1 := m1n hm
      obtain ⟨v, g1, g2⟩ := passes_s hm hle (hY 15)
      have d1 : f_X5_disorder b_kinds b_sizes b_sorts b_numbers b_weights b_keySlots b_keyBys b_keyWays b_keyCount b_sheetSet r_lesser r_positions r_places r_longest r_length 8 = some (v, le, po, pl, r_longest, nI m) := by
        unfold f_X5_disorder
        rw [e3, Option.bind_some, show f_X4_isFit (le, po, pl, nI m).2.2.2 = some 1 from fit, Option.bind_some, if_neg z10, if_neg (show ¬ (8 : Int32) = 3 by decide), if_neg (show ¬ (8 : Int32) = 4 by decide), if_neg (show ¬ (8 : Int32) = 5 by decide), if_neg (show ¬ (8 : Int32) = 6 by decide), if_neg (show ¬ (8 : Int32) = 7 by decide), show f_X4_bubblePasses (le, po, pl, nI m).1 (le, po, pl, nI m).2.2.2 = _ from g1]
        rfl
      have d2 : f_X6_ofOrder w_w w_scratch 8 (nI m) = some (v, w_scratch) := by
        unfold f_X6_ofOrder
        rw [if_neg (show ¬ (8 : Int32) = 3 by decide), if_neg (show ¬ (8 : Int32) = 4 by decide), if_neg (show ¬ (8 : Int32) = 5 by decide), if_neg (show ¬ (8 : Int32) = 6 by decide), if_neg (show ¬ (8 : Int32) = 7 by decide), if_pos rfl, g2]
        rfl
      rw [d1, e2, Option.bind_some, Option.bind_some, if_neg mne, d2]
      exact ⟨_, _, rfl, rfl, rfl⟩
  by_cases c9 : x1 = 9
  · subst c9
    rw [show f_X6_in (Int32.toInt64 9) 2 10 = some 1 by decide, Option.bind_some]
    rw [if_neg z10]
    simp only [if_neg (show ¬ (9 : Int32) = 0 by decide), if_neg (show ¬ (9 : Int32) = 1 by decide), if_neg (show ¬ (9 : Int32) = 2 by decide), if_neg (show ¬ (9 : Int32) = 3 by decide), if_neg (show ¬ (9 : Int32) = 4 by decide), if_neg (show ¬ (9 : Int32) = 5 by decide), if_neg (show ¬ (9 : Int32) = 6 by decide), if_neg (show ¬ (9 : Int32) = 7 by decide), if_neg (show ¬ (9 : Int32) = 8 by decide), if_true]
    rcases hord with ⟨e1, e2⟩ | ⟨m, hm, hF, e1, e2, hC, hY⟩
    · have d1 : f_X5_keysThatMatter b_kinds b_sizes b_sorts b_numbers b_weights b_keySlots b_keyBys b_keyWays b_keyCount b_sheetSet r_lesser r_positions r_places r_length q_lesser q_positions q_places q_length = some (-1, r_lesser, r_positions, r_places, -1, q_lesser, q_positions, q_places, q_length) := by
        unfold f_X5_keysThatMatter
        rw [sortP_no e1]
        rfl
      rw [d1, e2]
      exact ⟨_, _, rfl, rfl, rfl⟩
    · obtain ⟨le, po, pl, e3, hle, hpo, hpl⟩ := sortP_s hm e1 (hC 15) r_lesser r_positions r_places r_length
      have fit : f_X4_isFit (nI m) = some 1 := by unfold f_X4_isFit; rw [if_neg (m1n hm)]
      have mne : ¬ nI m = -1 := m1n hm
      obtain ⟨r, v, g1, g2, g3⟩ := matters_s hW hB hm e1 hC hY hpo q_lesser q_positions q_places q_length
      have d1 : f_X5_keysThatMatter b_kinds b_sizes b_sorts b_numbers b_weights b_keySlots b_keyBys b_keyWays b_keyCount b_sheetSet r_lesser r_positions r_places r_length q_lesser q_positions q_places q_length = some (r.1, le, po, pl, nI m, r.2.1, r.2.2.1, r.2.2.2.1, r.2.2.2.2) := by
        unfold f_X5_keysThatMatter
        rw [e3, Option.bind_some, show f_X4_isFit (le, po, pl, nI m).2.2.2 = some 1 from fit, Option.bind_some, if_neg z10, show L_X5_keysThatMatter_29 b_kinds b_sizes b_sorts b_numbers b_weights b_keySlots b_keyBys b_keyWays b_keyCount b_sheetSet (le, po, pl, nI m).2.1 (le, po, pl, nI m).2.2.2 4000 0 0 q_lesser q_positions q_places q_length = _ from g1]
        rfl
      have d2 : f_X6_ofOrder w_w w_scratch 9 (nI m) = some (v, w_scratch) := by
        unfold f_X6_ofOrder
        rw [if_neg (show ¬ (9 : Int32) = 3 by decide), if_neg (show ¬ (9 : Int32) = 4 by decide), if_neg (show ¬ (9 : Int32) = 5 by decide), if_neg (show ¬ (9 : Int32) = 6 by decide), if_neg (show ¬ (9 : Int32) = 7 by decide), if_neg (show ¬ (9 : Int32) = 8 by decide), if_pos rfl, g2]
        rfl
      rw [d1, e2, Option.bind_some, Option.bind_some, if_neg mne, d2]
      exact ⟨_, _, rfl, rfl, g3⟩
  by_cases c10 : x1 = 10
  · subst c10
    rw [show f_X6_in (Int32.toInt64 10) 2 10 = some 1 by decide, Option.bind_some]
    rw [if_neg z10]
    simp only [if_neg (show ¬ (10 : Int32) = 0 by decide), if_neg (show ¬ (10 : Int32) = 1 by decide), if_neg (show ¬ (10 : Int32) = 2 by decide), if_neg (show ¬ (10 : Int32) = 3 by decide), if_neg (show ¬ (10 : Int32) = 4 by decide), if_neg (show ¬ (10 : Int32) = 5 by decide), if_neg (show ¬ (10 : Int32) = 6 by decide), if_neg (show ¬ (10 : Int32) = 7 by decide), if_neg (show ¬ (10 : Int32) = 8 by decide), if_neg (show ¬ (10 : Int32) = 9 by decide), if_true]
    rcases hord with ⟨e1, e2⟩ | ⟨m, hm, hF, e1, e2, hC, hY⟩
    · have d1 : f_X5_fewestKeys b_kinds b_sizes b_sorts b_numbers b_weights b_keySlots b_keyBys b_keyWays b_keyCount b_sheetSet r_lesser r_positions r_places r_length q_lesser q_positions q_places q_length = some (-1, r_lesser, r_positions, r_places, -1, q_lesser, q_positions, q_places, q_length) := by
        unfold f_X5_fewestKeys
        rw [sortP_no e1]
        rfl
      rw [d1, e2]
      exact ⟨_, _, rfl, rfl, rfl⟩
    · obtain ⟨le, po, pl, e3, hle, hpo, hpl⟩ := sortP_s hm e1 (hC 15) r_lesser r_positions r_places r_length
      have fit : f_X4_isFit (nI m) = some 1 := by unfold f_X4_isFit; rw [if_neg (m1n hm)]
      have mne : ¬ nI m = -1 := m1n hm
      obtain ⟨r, v, g1, g2, g3⟩ := fewest_s hW hB hm e1 hC hY hpo q_lesser q_positions q_places q_length
      have d1 : f_X5_fewestKeys b_kinds b_sizes b_sorts b_numbers b_weights b_keySlots b_keyBys b_keyWays b_keyCount b_sheetSet r_lesser r_positions r_places r_length q_lesser q_positions q_places q_length = some (r.1, le, po, pl, nI m, r.2.1, r.2.2.1, r.2.2.2.1, r.2.2.2.2) := by
        unfold f_X5_fewestKeys
        rw [e3, Option.bind_some, show f_X4_isFit (le, po, pl, nI m).2.2.2 = some 1 from fit, Option.bind_some, if_neg z10, Option.bind_some, show L_X5_fewestKeys_41 b_kinds b_sizes b_sorts b_numbers b_weights b_keySlots b_keyBys b_keyWays b_keyCount b_sheetSet (le, po, pl, nI m).2.1 (le, po, pl, nI m).2.2.2 (((1 : Int32) <<< (b_keyCount &&& 31)) - 1) 4000 (((1 : Int32) <<< (b_keyCount &&& 31)) - 1) 0 q_lesser q_positions q_places q_length = _ from g1]
        rfl
      have d2 : f_X6_ofOrder w_w w_scratch 10 (nI m) = some (v, w_scratch) := by
        unfold f_X6_ofOrder
        rw [if_neg (show ¬ (10 : Int32) = 3 by decide), if_neg (show ¬ (10 : Int32) = 4 by decide), if_neg (show ¬ (10 : Int32) = 5 by decide), if_neg (show ¬ (10 : Int32) = 6 by decide), if_neg (show ¬ (10 : Int32) = 7 by decide), if_neg (show ¬ (10 : Int32) = 8 by decide), if_neg (show ¬ (10 : Int32) = 9 by decide), g2]
        rfl
      rw [d1, e2, Option.bind_some, Option.bind_some, if_neg mne, d2]
      exact ⟨_, _, rfl, rfl, g3⟩
  by_cases c11 : x1 = 11
  · subst c11
    rw [show f_X6_in (Int32.toInt64 11) 2 10 = some 0 by decide, Option.bind_some]
    simp only [if_neg (show ¬ (11 : Int32) = 0 by decide), if_neg (show ¬ (11 : Int32) = 1 by decide), if_neg (show ¬ (11 : Int32) = 2 by decide), if_neg (show ¬ (11 : Int32) = 3 by decide), if_neg (show ¬ (11 : Int32) = 4 by decide), if_neg (show ¬ (11 : Int32) = 5 by decide), if_neg (show ¬ (11 : Int32) = 6 by decide), if_neg (show ¬ (11 : Int32) = 7 by decide), if_neg (show ¬ (11 : Int32) = 8 by decide), if_neg (show ¬ (11 : Int32) = 9 by decide), if_neg (show ¬ (11 : Int32) = 10 by decide), if_true]
    obtain ⟨v, e1, e2⟩ := expl2_s hW hB
    rw [e1, e2]
    exact ⟨_, _, rfl, rfl, rfl⟩
  by_cases c12 : x1 = 12
  · subst c12
    rw [show f_X6_in (Int32.toInt64 12) 2 10 = some 0 by decide, Option.bind_some]
    simp only [if_neg (show ¬ (12 : Int32) = 0 by decide), if_neg (show ¬ (12 : Int32) = 1 by decide), if_neg (show ¬ (12 : Int32) = 2 by decide), if_neg (show ¬ (12 : Int32) = 3 by decide), if_neg (show ¬ (12 : Int32) = 4 by decide), if_neg (show ¬ (12 : Int32) = 5 by decide), if_neg (show ¬ (12 : Int32) = 6 by decide), if_neg (show ¬ (12 : Int32) = 7 by decide), if_neg (show ¬ (12 : Int32) = 8 by decide), if_neg (show ¬ (12 : Int32) = 9 by decide), if_neg (show ¬ (12 : Int32) = 10 by decide), if_neg (show ¬ (12 : Int32) = 11 by decide), if_true]
    exact ⟨_, _, rfl, rfl, hK.1⟩
  by_cases c13 : x1 = 13
  · subst c13
    rw [show f_X6_in (Int32.toInt64 13) 2 10 = some 0 by decide, Option.bind_some]
    simp only [if_neg (show ¬ (13 : Int32) = 0 by decide), if_neg (show ¬ (13 : Int32) = 1 by decide), if_neg (show ¬ (13 : Int32) = 2 by decide), if_neg (show ¬ (13 : Int32) = 3 by decide), if_neg (show ¬ (13 : Int32) = 4 by decide), if_neg (show ¬ (13 : Int32) = 5 by decide), if_neg (show ¬ (13 : Int32) = 6 by decide), if_neg (show ¬ (13 : Int32) = 7 by decide), if_neg (show ¬ (13 : Int32) = 8 by decide), if_neg (show ¬ (13 : Int32) = 9 by decide), if_neg (show ¬ (13 : Int32) = 10 by decide), if_neg (show ¬ (13 : Int32) = 11 by decide), if_neg (show ¬ (13 : Int32) = 12 by decide), if_true]
    rcases hord with ⟨e1, e2⟩ | ⟨m, hm, hF, e1, e2, hC, hY⟩
    · obtain ⟨v, e4, e5⟩ := wrong_no (po := r_positions) hK e2
      rw [sortP_no e1, e5, Option.bind_some]
      rw [show f_X1_firstWrong k_places k_positions k_count (r_lesser, r_positions, r_places, (-1 : Int32)).2.1 (r_lesser, r_positions, r_places, (-1 : Int32)).2.2.2 = some v from e4]
      exact ⟨_, _, rfl, rfl, rfl⟩
    · obtain ⟨le, po, pl, e3, hle, hpo, hpl⟩ := sortP_s hm e1 (hC 15) r_lesser r_positions r_places r_length
      obtain ⟨v, e4, e5⟩ := wrong_s hm hpo (hY 15) hK e2
      rw [e3, e5, Option.bind_some]
      rw [show f_X1_firstWrong k_places k_positions k_count (le, po, pl, nI m).2.1 (le, po, pl, nI m).2.2.2 = some v from e4]
      exact ⟨_, _, rfl, rfl, rfl⟩
  by_cases c14 : x1 = 14
  · subst c14
    rw [show f_X6_in (Int32.toInt64 14) 2 10 = some 0 by decide, Option.bind_some]
    simp only [if_neg (show ¬ (14 : Int32) = 0 by decide), if_neg (show ¬ (14 : Int32) = 1 by decide), if_neg (show ¬ (14 : Int32) = 2 by decide), if_neg (show ¬ (14 : Int32) = 3 by decide), if_neg (show ¬ (14 : Int32) = 4 by decide), if_neg (show ¬ (14 : Int32) = 5 by decide), if_neg (show ¬ (14 : Int32) = 6 by decide), if_neg (show ¬ (14 : Int32) = 7 by decide), if_neg (show ¬ (14 : Int32) = 8 by decide), if_neg (show ¬ (14 : Int32) = 9 by decide), if_neg (show ¬ (14 : Int32) = 10 by decide), if_neg (show ¬ (14 : Int32) = 11 by decide), if_neg (show ¬ (14 : Int32) = 12 by decide), if_neg (show ¬ (14 : Int32) = 13 by decide), if_true]
    exact ⟨_, _, rfl, rfl, hH.1⟩
  by_cases c15 : x1 = 15
  · subst c15
    rw [show f_X6_in (Int32.toInt64 15) 2 10 = some 0 by decide, Option.bind_some]
    simp only [if_neg (show ¬ (15 : Int32) = 0 by decide), if_neg (show ¬ (15 : Int32) = 1 by decide), if_neg (show ¬ (15 : Int32) = 2 by decide), if_neg (show ¬ (15 : Int32) = 3 by decide), if_neg (show ¬ (15 : Int32) = 4 by decide), if_neg (show ¬ (15 : Int32) = 5 by decide), if_neg (show ¬ (15 : Int32) = 6 by decide), if_neg (show ¬ (15 : Int32) = 7 by decide), if_neg (show ¬ (15 : Int32) = 8 by decide), if_neg (show ¬ (15 : Int32) = 9 by decide), if_neg (show ¬ (15 : Int32) = 10 by decide), if_neg (show ¬ (15 : Int32) = 11 by decide), if_neg (show ¬ (15 : Int32) = 12 by decide), if_neg (show ¬ (15 : Int32) = 13 by decide), if_neg (show ¬ (15 : Int32) = 14 by decide), if_true]
    exact ⟨_, _, rfl, rfl, hS.1.symm⟩
  have hin : f_X6_in (Int32.toInt64 x1) 2 10 = some 0 := by
    rw [in_v, t64, if_neg]
    intro h
    have e2 : (2 : Int64).toInt = 2 := rfl
    have e10 : (10 : Int64).toInt = 10 := rfl
    rw [e2, e10] at h
    have hh : x1.toInt = 2 ∨ x1.toInt = 3 ∨ x1.toInt = 4 ∨ x1.toInt = 5 ∨ x1.toInt = 6 ∨ x1.toInt = 7 ∨ x1.toInt = 8 ∨ x1.toInt = 9 ∨ x1.toInt = 10 := by omega
    rcases hh with h | h | h | h | h | h | h | h | h
    · exact c2 (k32 h)
    · exact c3 (k32 h)
    · exact c4 (k32 h)
    · exact c5 (k32 h)
    · exact c6 (k32 h)
    · exact c7 (k32 h)
    · exact c8 (k32 h)
    · exact c9 (k32 h)
    · exact c10 (k32 h)
  rw [hin, Option.bind_some, if_pos rfl]
  simp only [if_neg c0, if_neg c1, if_neg c2, if_neg c3, if_neg c4, if_neg c5, if_neg c6, if_neg c7, if_neg c8, if_neg c9, if_neg c10, if_neg c11, if_neg c12, if_neg c13, if_neg c14, if_neg c15]
  exact ⟨_, _, rfl, rfl, rfl⟩
