/-! compare, rank; what told counts: sections, longest, passes -/
section OD1
variable {k z t g ks kb kw : Nat → Int32} {n : Nat → Int64} {kc ss hs : Int32} {hn : Int64} {w : Nat → Int64}
theorem ord_s (hW : WFu (k, z, t, n, g, ks, kb, kw, kc, ss, hs, hn)) (hB : RBu (k, z, t, n, g, ks, kb, kw, kc, ss, hs, hn) w 0) : (f_X0_length k z ks kb kc ss = some (-1) ∧ f_X6_places w = some (-1)) ∨ ∃ m, m ≤ 12 ∧ Fit k z ks kb kc ss m ∧ f_X0_length k z ks kb kc ss = some (nI m) ∧ f_X6_places w = some (nI m) ∧ (∀ S, CPs t g ks kb kw n kc S (vP g t n ks kb kw kc S) m) ∧ (∀ S, BY w S (vP g t n ks kb kw kc S) m) := by
  obtain ⟨L, h1, h2, h3⟩ := places_s hW hB
  rcases h3 with rfl | ⟨m, rfl, hF⟩
  · exact Or.inl ⟨h1, h2⟩
  · exact Or.inr ⟨m, hF.1, hF, h1, h2, fun S a b ha hb' => (comp_s hW hB hF S ha hb').1, fun S a b ha hb' => (comp_s hW hB hF S ha hb').2⟩
end OD1
theorem isPlM {w : Nat → Int64} {L : Int32} (h : f_X6_places w = some L) (x : Int32) : f_X6_isPlace w x = f_X6_in (Int32.toInt64 x) 0 (Int32.toInt64 (L - 1)) := by
  unfold f_X6_isPlace
  rw [h, Option.bind_some]
  cases f_X6_in (Int32.toInt64 x) 0 (Int32.toInt64 (L - 1)) <;> rfl
/-- a place or none, for both -/
theorem plC {w : Nat → Int64} {m : Nat} (hm : m ≤ 12) (h : f_X6_places w = some (nI m)) (x : Int32) : (f_X5_isIn x 0 (nI m - 1) = some 0 ∧ f_X6_isPlace w x = some 0 ∧ f_X4_isPlace (nI m) x = some 0) ∨ ∃ p, p < m ∧ x = nI p ∧ f_X5_isIn x 0 (nI m - 1) = some 1 ∧ f_X6_isPlace w x = some 1 ∧ f_X4_isPlace (nI m) x = some 1 := by
  have hn : 0 ≤ (nI m).toInt := by rw [nI_toInt (by omega)]; omega
  have e1 : (nI m - 1).toInt = (m : Int) - 1 := by rw [sub1 hn, nI_toInt (by omega)]
  rw [isPlM h, isPl_s, nI_toInt (show m < 2 ^ 31 by omega)]
  have e0 : (0 : Int32).toInt = 0 := rfl
  rcases inC x 0 (nI m - 1) 0 (Int32.toInt64 (nI m - 1)) rfl (t64 _) with ⟨h1, h2, h3⟩ | ⟨h1, h2, h3⟩
  · rw [e0, e1] at h3
    rw [if_neg (by omega)]
    exact Or.inl ⟨h1, h2, rfl⟩
  · rw [e0, e1] at h3
    obtain ⟨p, hp, rfl⟩ := inN (N := m) h3.1 (by omega)
    rw [nI_toInt (by omega)] at h3 ⊢
    rw [if_pos (by omega)]
    exact Or.inr ⟨p, hp, rfl, h1, h2, rfl⟩
theorem plN {w : Nat → Int64} (h : f_X6_places w = some (-1)) (x : Int32) : f_X5_isIn x 0 ((-1) - 1) = some 0 ∧ f_X6_isPlace w x = some 0 ∧ f_X4_isPlace (-1) x = some 0 := by
  rw [isPlM h, isPl_s]
  have e0 : (0 : Int32).toInt = 0 := rfl
  have e1 : ((-1 : Int32) - 1).toInt = -2 := rfl
  have e2 : (-1 : Int32).toInt = -1 := rfl
  rcases inC x 0 ((-1) - 1) 0 (Int32.toInt64 ((-1) - 1)) rfl (t64 _) with ⟨h1, h2, h3⟩ | ⟨h1, h2, h3⟩
  · rw [e2, if_neg (by omega)]
    exact ⟨h1, h2, rfl⟩
  · rw [e0, e1] at h3
    omega
theorem rel_s (x y : Int) : f_X5_relation (sg x y) = some (sg x y + 1) := by
  unfold f_X5_relation
  rcases sg_cases x y with ⟨h, e⟩ | ⟨h, e⟩ | ⟨h, e⟩ <;> rw [e] <;> rfl
theorem sim_compare {b_kinds : Nat → Int32} {b_sizes : Nat → Int32} {b_sorts : Nat → Int32} {b_numbers : Nat → Int64} {b_weights : Nat → Int32} {b_keySlots : Nat → Int32} {b_keyBys : Nat → Int32} {b_keyWays : Nat → Int32} {b_keyCount : Int32} {b_sheetSet : Int32} {b_handSort : Int32} {b_handNumber : Int64} {x_imageRandoms : Nat → Int32} {x_random : Int32} {h_next : Int32} {h_count : Int32} {k_places : Nat → Int32} {k_positions : Nat → Int32} {k_count : Int32} {w_w : Nat → Int64} {w_imageSeed : Nat → Int32} {w_isKept : Nat → Int32} {w_undos : Int32} {w_seed : Int32} {w_entries : Int32} {w_bookPlace : Nat → Int32} {w_bookPosition : Nat → Int32} {P_hs : HT} (hR : Rel (b_kinds, b_sizes, b_sorts, b_numbers, b_weights, b_keySlots, b_keyBys, b_keyWays, b_keyCount, b_sheetSet, b_handSort, b_handNumber) x_imageRandoms x_random h_next h_count P_hs k_places k_positions k_count w_w w_imageSeed w_isKept w_undos w_seed w_entries w_bookPlace w_bookPosition) (x1 : Int32) (x2 : Int32) : ∃ (zc : Int32) (zm : Int32), f_X5_compare b_kinds b_sizes b_sorts b_numbers b_weights b_keySlots b_keyBys b_keyWays b_keyCount b_sheetSet x1 x2 = some zc ∧ f_X6_compare w_w x1 x2 = some zm ∧ zc = zm ∧ Rel (b_kinds, b_sizes, b_sorts, b_numbers, b_weights, b_keySlots, b_keyBys, b_keyWays, b_keyCount, b_sheetSet, b_handSort, b_handNumber) x_imageRandoms x_random h_next h_count P_hs k_places k_positions k_count w_w w_imageSeed w_isKept w_undos w_seed w_entries w_bookPlace w_bookPosition := by
  have hW := hR.1
  have hB := hR.2.1
  suffices h : ∃ v, f_X5_compare b_kinds b_sizes b_sorts b_numbers b_weights b_keySlots b_keyBys b_keyWays b_keyCount b_sheetSet x1 x2 = some v ∧ f_X6_compare w_w x1 x2 = some v by
    obtain ⟨v, h1, h2⟩ := h
    exact ⟨v, v, h1, h2, rfl, hR⟩
  unfold f_X5_compare f_X6_compare
  rcases ord_s hW hB with ⟨e1, e2⟩ | ⟨m, hm, hF, e1, e2, hC, hY⟩
  · obtain ⟨h1, h2, _⟩ := plN e2 x1
    rw [e1, h2]
    simp only [Option.bind_some, h1]
    exact ⟨_, rfl, rfl⟩
  rw [e1]
  simp only [Option.bind_some]
  rcases plC hm e2 x1 with ⟨h1, h2, _⟩ | ⟨a, ha, rfl, h1, h2, _⟩
  · rw [h1, h2]; exact ⟨_, rfl, rfl⟩
  rw [h1, h2]
  simp only [Option.bind_some, if_neg z10]
  rcases plC hm e2 x2 with ⟨h1, h2, _⟩ | ⟨b, hb', rfl, h1, h2, _⟩
  · rw [h1, h2]; exact ⟨_, rfl, rfl⟩
  rw [h1, h2]
  simp only [Option.bind_some, if_neg z10, hC 15 a b ha hb', hY 15 a b ha hb', rel_s]
  exact ⟨_, rfl, rfl⟩
theorem sim_rank {b_kinds : Nat → Int32} {b_sizes : Nat → Int32} {b_sorts : Nat → Int32} {b_numbers : Nat → Int64} {b_weights : Nat → Int32} {b_keySlots : Nat → Int32} {b_keyBys : Nat → Int32} {b_keyWays : Nat → Int32} {b_keyCount : Int32} {b_sheetSet : Int32} {b_handSort : Int32} {b_handNumber : Int64} {x_imageRandoms : Nat → Int32} {x_random : Int32} {h_next : Int32} {h_count : Int32} {k_places : Nat → Int32} {k_positions : Nat → Int32} {k_count : Int32} {w_w : Nat → Int64} {w_imageSeed : Nat → Int32} {w_isKept : Nat → Int32} {w_undos : Int32} {w_seed : Int32} {w_entries : Int32} {w_bookPlace : Nat → Int32} {w_bookPosition : Nat → Int32} {P_hs : HT} (hR : Rel (b_kinds, b_sizes, b_sorts, b_numbers, b_weights, b_keySlots, b_keyBys, b_keyWays, b_keyCount, b_sheetSet, b_handSort, b_handNumber) x_imageRandoms x_random h_next h_count P_hs k_places k_positions k_count w_w w_imageSeed w_isKept w_undos w_seed w_entries w_bookPlace w_bookPosition) (r_lesser : Nat → Int32) (r_positions : Nat → Int32) (r_places : Nat → Int32) (r_length : Int32) (x1 : Int32) (x2 : Int32) : ∃ (zc : Int32 × (Nat → Int32) × (Nat → Int32) × (Nat → Int32) × Int32) (zm : Int32), f_X5_rank b_kinds b_sizes b_sorts b_numbers b_weights b_keySlots b_keyBys b_keyWays b_keyCount b_sheetSet r_lesser r_positions r_places r_length x1 x2 = some zc ∧ f_X6_rank w_w x1 x2 = some zm ∧ zc.1 = zm ∧ Rel (b_kinds, b_sizes, b_sorts, b_numbers, b_weights, b_keySlots, b_keyBys, b_keyWays, b_keyCount, b_sheetSet, b_handSort, b_handNumber) x_imageRandoms x_random h_next h_count P_hs k_places k_positions k_count w_w w_imageSeed w_isKept w_undos w_seed w_entries w_bookPlace w_bookPosition := by
  have hW := hR.1
  have hB := hR.2.1
  suffices h : ∃ zc v, f_X5_rank b_kinds b_sizes b_sorts b_numbers b_weights b_keySlots b_keyBys b_keyWays b_keyCount b_sheetSet r_lesser r_positions r_places r_length x1 x2 = some zc ∧ f_X6_rank w_w x1 x2 = some v ∧ zc.1 = v by
    obtain ⟨zc, v, h1, h2, h3⟩ := h
    exact ⟨zc, v, h1, h2, h3, hR⟩
  unfold f_X5_rank f_X6_rank
  rcases ord_s hW hB with ⟨e1, e2⟩ | ⟨m, hm, hF, e1, e2, hC, hY⟩
  · obtain ⟨h1, h2, h3⟩ := plN e2 x1
    rw [sortP_no e1, h2]
    simp only [Option.bind_some, h3]
    exact ⟨_, _, rfl, rfl, rfl⟩
  obtain ⟨le, po, pl, e3, hle, hpo, hpl⟩ := sortP_s hm e1 (hC 15) r_lesser r_positions r_places r_length
  rw [e3]
  simp only [Option.bind_some]
  rcases plC hm e2 x1 with ⟨_, h2, h3⟩ | ⟨p, hp, rfl, _, h2, h3⟩
  · rw [h2, h3]; exact ⟨_, _, rfl, rfl, rfl⟩
  rw [h2, h3]
  simp only [Option.bind_some, if_neg z10, e2]
  by_cases h0 : x2 = 0
  · simp only [if_pos h0, lesser_s hm hle hp, lessThan_s hm (hY 15) hp]; exact ⟨_, _, rfl, rfl, rfl⟩
  simp only [if_neg h0]
  by_cases h0 : x2 = 1
  · simp only [if_pos h0, classesBelow_s hm hle hp, unlikeLess_s hm (hY 15) hp]; exact ⟨_, _, rfl, rfl, rfl⟩
  simp only [if_neg h0]
  by_cases h0 : x2 = 2
  · simp only [if_pos h0, posOf_s hm hp (hpo p hp), position_s hm (hY 15) hp]; exact ⟨_, _, rfl, rfl, rfl⟩
  simp only [if_neg h0]
  by_cases h0 : x2 = 3
  · simp only [if_pos h0, alikeTo_s hm hle hp, alikeToM_s hm (hY 15) hp]; exact ⟨_, _, rfl, rfl, rfl⟩
  simp only [if_neg h0]
  by_cases h0 : x2 = 4
  · obtain ⟨q, hq, rfl⟩ := ps_surj (V := vP b_weights b_sorts b_numbers b_keySlots b_keyBys b_keyWays b_keyCount 15) hm hp
    simp only [if_pos h0, placeAt_s hm hq (hpl q hq), placeAtM_s hm (hY 15) hq]; exact ⟨_, _, rfl, rfl, rfl⟩
  simp only [if_neg h0]
  exact ⟨_, _, rfl, rfl, rfl⟩
section TD1
variable {V : Nat → Int} {m : Nat} {le : Nat → Int32} {w : Nat → Int64}
theorem sections_s (hm : m ≤ 12) (hl : LE V m le) (hy : BY w 15 V m) : ∃ v, f_X4_sections le (nI m) = some v ∧ f_X6_runs w (nI m) = some v := by
  have key : ∀ a : Int32, 0 < m → ∃ r p, L_X4_sections_15 le (nI m) 4000 a 1 = some r ∧ L_X6_runs_12 w (nI m) 4000 a 1 = some p ∧ r = p := by
    intro a h0
    refine lock (fun f q a => L_X4_sections_15 le (nI m) f a (nI (q + 1))) (fun f q a => L_X6_runs_12 w (nI m) f a (nI (q + 1))) (fun _ a b => a = b) (fun r p => r = p) (m - 1) ?_ ?_ (m - 1) 0 4000 4000 a a (by omega) (by omega) (by omega) rfl
    · rintro f g a b rfl
      show ∃ r p, L_X4_sections_15 le (nI m) (f + 1) a (nI (m - 1 + 1)) = some r ∧ L_X6_runs_12 w (nI m) (g + 1) a (nI (m - 1 + 1)) = some p ∧ r = p
      rw [show m - 1 + 1 = m by omega, L_X4_sections_15, L_X6_runs_12, if_pos (nI_le (by omega) (by omega)), if_pos (nI_le (by omega) (by omega))]
      exact ⟨a, a, rfl, rfl, rfl⟩
    · rintro f g q a b hq rfl
      refine Or.inl ?_
      show ∃ s' t', _ ∧ L_X4_sections_15 le (nI m) (f + 1) a (nI (q + 1)) = L_X4_sections_15 le (nI m) f s' (nI (q + 1 + 1)) ∧ L_X6_runs_12 w (nI m) (g + 1) a (nI (q + 1)) = L_X6_runs_12 w (nI m) g t' (nI (q + 1 + 1))
      have hge : ¬ nI m ≤ nI (q + 1) := nI_ge (by omega) (by omega)
      have hsub : nI (q + 1) - 1 = nI q := nI_pred q
      rw [L_X4_sections_15, L_X6_runs_12, if_neg hge, if_neg hge, hsub, cbr_s hm hl (by omega) (by omega), isLess_s hy (by omega) (by omega)]
      simp only [Option.bind_some, nI_1]
      by_cases h : V (q + 1) < V q
      · rw [if_neg (fun e => by have := sg_ge.mp e; omega), decide_eq_true h, if_neg (by decide)]
        exact ⟨_, _, rfl, rfl, rfl⟩
      · rw [if_pos (sg_ge.mpr (by omega)), decide_eq_false h, if_pos bI_f, Int32.add_zero]
        exact ⟨_, _, rfl, rfl, rfl⟩
  unfold f_X4_sections f_X6_runs
  by_cases h0 : 0 < m
  · have hn : ¬ nI m ≤ 0 := nI_nle h0 (by omega)
    obtain ⟨r, p, e1, e2, rfl⟩ := key 1 h0
    rw [if_neg hn, if_neg hn, e1, e2]
    exact ⟨_, rfl, rfl⟩
  · have : m = 0 := by omega
    subst this
    exact ⟨0, rfl, rfl⟩
theorem passes_s (hm : m ≤ 12) (hl : LE V m le) (hy : BY w 15 V m) : ∃ v, f_X4_bubblePasses le (nI m) = some v ∧ f_X6_passes w (nI m) = some v := by
  have inn : ∀ p, p < m → L_X6_passes_15 w (nI p) 4000 0 0 = some (nI (cn (fun q => decide (V p < V q)) p)) := by
    intro p hp
    refine cloop0 (L_X6_passes_15 w (nI p)) (fun q => decide (V p < V q)) p (by omega) ?_ ?_ ?_
    · intro f a
      rw [L_X6_passes_15, if_pos (nI_le (by omega) (by omega))]
    · intro f a q hq hP
      rw [L_X6_passes_15, if_neg (nI_ge hq (by omega)), isLess_s hy hp (by omega), hP]
      simp only [Option.bind_some, nI_1]
      rw [if_neg (by decide)]
    · intro f a q hq hP
      rw [L_X6_passes_15, if_neg (nI_ge hq (by omega)), isLess_s hy hp (by omega), hP]
      simp only [Option.bind_some, nI_1]
      rw [if_pos bI_f, Int32.add_zero]
  have key : ∃ r p, L_X4_bubblePasses_4 le (nI m) 4000 0 0 = some r ∧ L_X6_passes_4 w (nI m) 4000 0 0 = some p ∧ r = p := by
    refine lock (fun f q a => L_X4_bubblePasses_4 le (nI m) f a (nI q)) (fun f q a => L_X6_passes_4 w (nI m) f a (nI q)) (fun _ a b => a = b) (fun r p => r = p) m ?_ ?_ m 0 4000 4000 0 0 (by omega) (by omega) (by omega) rfl
    · rintro f g a b rfl
      show ∃ r p, L_X4_bubblePasses_4 le (nI m) (f + 1) a (nI m) = some r ∧ L_X6_passes_4 w (nI m) (g + 1) a (nI m) = some p ∧ r = p
      rw [L_X4_bubblePasses_4, L_X6_passes_4, if_pos (nI_le (by omega) (by omega)), if_pos (nI_le (by omega) (by omega))]
      exact ⟨a, a, rfl, rfl, rfl⟩
    · rintro f g q a b hq rfl
      refine Or.inl ?_
      show ∃ s' t', _ ∧ L_X4_bubblePasses_4 le (nI m) (f + 1) a (nI q) = L_X4_bubblePasses_4 le (nI m) f s' (nI (q + 1)) ∧ L_X6_passes_4 w (nI m) (g + 1) a (nI q) = L_X6_passes_4 w (nI m) g t' (nI (q + 1))
      have hge : ¬ nI m ≤ nI q := nI_ge (by omega) (by omega)
      rw [L_X4_bubblePasses_4, L_X6_passes_4, if_neg hge, if_neg hge, greaterBefore_s hm hl hq, inn q hq]
      simp only [Option.bind_some, nI_1, lt32, le32]
      generalize nI (cn (fun r => decide (V q < V r)) q) = c
      by_cases h : a.toInt < c.toInt
      · rw [if_pos h, if_neg (by omega)]
        exact ⟨_, _, rfl, rfl, rfl⟩
      · rw [if_neg h, if_pos (by omega)]
        exact ⟨_, _, rfl, rfl, rfl⟩
  obtain ⟨r, p, e1, e2, rfl⟩ := key
  unfold f_X4_bubblePasses f_X6_passes
  rw [e1, e2]
  exact ⟨r, rfl, rfl⟩
/-- the longest so far, below p -/
def LG (p : Nat) (lo sc : Nat → Int32) : Prop := ∀ j, j < p → sc j = lo j ∧ ∃ x, x ≤ j + 1 ∧ lo j = nI x
theorem longIn (hm : m ≤ 12) (hl : LE V m le) (hy : BY w 15 V m) {p : Nat} (hp : p < m) (lo sc : Nat → Int32) (h0 : LG p lo sc) (h1 : lo p = 1) (h2 : sc p = 1) : ∃ lo' sc', L_X4_longestSorted_27 le (nI m) (nI p) 4000 0 lo = some lo' ∧ L_X6_staying_19 w (nI p) 4000 0 sc = some sc' ∧ LG (p + 1) lo' sc' := by
  refine lock (fun f q lo => L_X4_longestSorted_27 le (nI m) (nI p) f (nI q) lo) (fun f q sc => L_X6_staying_19 w (nI p) f (nI q) sc) (fun q lo sc => LG p lo sc ∧ sc p = lo p ∧ ∃ x, x ≤ q + 1 ∧ lo p = nI x) (fun lo sc => LG (p + 1) lo sc) p ?_ ?_ p 0 4000 4000 lo sc (by omega) (by omega) (by omega) ⟨h0, h2.trans h1.symm, 1, by omega, h1⟩
  · rintro f g lo sc ⟨hG, h3, x, hx, h4⟩
    show ∃ r q, L_X4_longestSorted_27 le (nI m) (nI p) (f + 1) (nI p) lo = some r ∧ L_X6_staying_19 w (nI p) (g + 1) (nI p) sc = some q ∧ LG (p + 1) r q
    rw [L_X4_longestSorted_27, L_X6_staying_19, if_pos (nI_le (by omega) (by omega)), if_pos (nI_le (by omega) (by omega))]
    refine ⟨lo, sc, rfl, rfl, ?_⟩
    intro j hj
    by_cases e : j = p
    · subst e; exact ⟨h3, x, hx, h4⟩
    · exact hG j (by omega)
  · rintro f g q lo sc hq ⟨hG, h3, x, hx, h4⟩
    refine Or.inl ?_
    show ∃ s' t', _ ∧ L_X4_longestSorted_27 le (nI m) (nI p) (f + 1) (nI q) lo = L_X4_longestSorted_27 le (nI m) (nI p) f (nI (q + 1)) s' ∧ L_X6_staying_19 w (nI p) (g + 1) (nI q) sc = L_X6_staying_19 w (nI p) g (nI (q + 1)) t'
    have hge : ¬ nI p ≤ nI q := nI_ge (by omega) (by omega)
    obtain ⟨h5, y, hy', h6⟩ := hG q hq
    rw [L_X4_longestSorted_27, L_X6_staying_19, if_neg hge, if_neg hge, cbr_s hm hl hp (by omega), isLess_s hy hp (by omega)]
    simp only [Option.bind_some, nI_1, ib_n (show p < 12 by omega) (show 12 < 2 ^ 31 by omega), ib_n (show q < 12 by omega) (show 12 < 2 ^ 31 by omega), nI_clamp (show p < 2 ^ 31 by omega), nI_clamp (show q < 2 ^ 31 by omega), if_true]
    rw [h3, h5, h4, h6]
    simp only [nI_1]
    by_cases h : V p < V q
    · rw [if_pos (sg_n.mpr h), decide_eq_true h, if_neg (by decide)]
      refine ⟨lo, _, ⟨?_, ?_, x, by omega, h4⟩, rfl, rfl⟩
      · intro j hj
        rw [pk_un (by omega)]
        exact hG j hj
      · rw [pk_us, h4]
    · rw [if_neg (fun e => h (sg_n.mp e)), decide_eq_false h, if_pos bI_f]
      by_cases hxy : x < y + 1
      · rw [if_pos (nI_lt hxy (by omega)), if_neg (nI_nlt (by omega) (by omega))]
        refine ⟨_, _, ⟨?_, ?_, y + 1, by omega, pk_us⟩, rfl, rfl⟩
        · intro j hj
          rw [pk_un (by omega), pk_un (by omega)]
          exact hG j hj
        · rw [pk_us, pk_us]
      · rw [if_neg (nI_nlt (by omega) (by omega)), if_pos (nI_lt (by omega) (by omega))]
        refine ⟨_, _, ⟨?_, ?_, x, by omega, pk_us⟩, rfl, rfl⟩
        · intro j hj
          rw [pk_un (by omega), pk_un (by omega)]
          exact hG j hj
        · rw [pk_us, pk_us]
theorem longest_s (hm : m ≤ 12) (hl : LE V m le) (hy : BY w 15 V m) (lo sc : Nat → Int32) : ∃ zc zm, f_X4_longestSorted le lo (nI m) = some zc ∧ f_X6_staying w sc (nI m) = some zm ∧ zc.1 = zm.1 := by
  have key : ∃ r q, L_X4_longestSorted_4 le (nI m) 4000 0 (nI 0) lo = some r ∧ L_X6_staying_4 w (nI m) 4000 0 (nI 0) sc = some q ∧ r.1 = q.1 := by
    refine lock (fun f q (s : Int32 × (Nat → Int32)) => L_X4_longestSorted_4 le (nI m) f s.1 (nI q) s.2) (fun f q (s : Int32 × (Nat → Int32)) => L_X6_staying_4 w (nI m) f s.1 (nI q) s.2) (fun q a b => a.1 = b.1 ∧ LG q a.2 b.2) (fun r q => r.1 = q.1) m ?_ ?_ m 0 4000 4000 ((0 : Int32), lo) ((0 : Int32), sc) (by omega) (by omega) (by omega) ⟨rfl, fun j hj => by omega⟩
    · rintro f g ⟨a, lo⟩ ⟨b, sc⟩ ⟨h, hG⟩
      show ∃ r q, L_X4_longestSorted_4 le (nI m) (f + 1) a (nI m) lo = some r ∧ L_X6_staying_4 w (nI m) (g + 1) b (nI m) sc = some q ∧ r.1 = q.1
      rw [L_X4_longestSorted_4, L_X6_staying_4, if_pos (nI_le (by omega) (by omega)), if_pos (nI_le (by omega) (by omega))]
      exact ⟨_, _, rfl, rfl, h⟩
    · rintro f g q ⟨a, lo⟩ ⟨b, sc⟩ hq ⟨h, hG⟩
      refine Or.inl ?_
      show ∃ (s' t' : Int32 × (Nat → Int32)), _ ∧ L_X4_longestSorted_4 le (nI m) (f + 1) a (nI q) lo = L_X4_longestSorted_4 le (nI m) f s'.1 (nI (q + 1)) s'.2 ∧ L_X6_staying_4 w (nI m) (g + 1) b (nI q) sc = L_X6_staying_4 w (nI m) g t'.1 (nI (q + 1)) t'.2
      have h' : a = b := h
      subst h'
      have hge : ¬ nI m ≤ nI q := nI_ge (by omega) (by omega)
      have h12 : ¬ (12 : Int32) ≤ nI q := show ¬ nI 12 ≤ nI q from nI_ge (by omega) (by omega)
      obtain ⟨lo', sc', e1, e2, hG'⟩ := longIn hm hl hy hq (upd lo q 1) (upd sc q 1) (fun j hj => by rw [pk_un (by omega), pk_un (by omega)]; exact hG j hj) pk_us pk_us
      rw [L_X4_longestSorted_4, L_X6_staying_4, if_neg hge, if_neg hge, if_neg h12]
      simp only [Option.bind_some, nI_1, ib_n (show q < 12 by omega) (show 12 < 2 ^ 31 by omega), nI_clamp (show q < 2 ^ 31 by omega), if_true, e1, e2, lt32, le32, (hG' q (by omega)).1]
      generalize lo' q = c
      by_cases h : a.toInt < c.toInt
      · rw [if_pos h, if_neg (by omega)]
        exact ⟨(c, lo'), (c, sc'), ⟨rfl, hG'⟩, rfl, rfl⟩
      · rw [if_neg h, if_pos (by omega)]
        exact ⟨(a, lo'), (a, sc'), ⟨rfl, hG'⟩, rfl, rfl⟩
  obtain ⟨r, q, e1, e2, e3⟩ := key
  unfold f_X4_longestSorted f_X6_staying
  rw [show (L_X4_longestSorted_4 le (nI m) 4000 0 0 lo) = _ from e1, show (L_X6_staying_4 w (nI m) 4000 0 0 sc) = _ from e2]
  exact ⟨_, _, rfl, rfl, e3⟩
end TD1
