/-! sheet, unkey, weigh, key, take, keep, goBack, undo -/
section ST1
variable {k z t g ks kb kw : Nat → Int32} {n : Nat → Int64} {kc ss hs : Int32} {hn : Int64} {w : Nat → Int64}
theorem RB0 (h1 : ∀ s, s < 6 → w s = (k s).toInt64 ∧ ((k s).toInt ≤ 11 → w (6 + s) = (z s).toInt64)) (h2 : ∀ c, c < 72 → w (12 + c) = (t c).toInt64 ∧ w (84 + c) = n c) (h3 : w 156 = kc.toInt64) (h4 : ∀ i, i < 4 → w (157 + 3 * i) = (ks i).toInt64 ∧ w (158 + 3 * i) = (kb i).toInt64 ∧ w (159 + 3 * i) = (kw i).toInt64) (h5 : w 169 = ss.toInt64 ∧ w 170 = hs.toInt64 ∧ w 171 = hn) (h6 : ∀ i, i < 8 → w (172 + i) = (g i).toInt64) : RBu (k, z, t, n, g, ks, kb, kw, kc, ss, hs, hn) w 0 := by
  refine ⟨fun s hs => ?_, fun c hc => ?_, h3, fun i hi => ?_, h5.1, h5.2.1, h5.2.2, fun i hi => ?_⟩
  · rw [Nat.zero_add, Nat.zero_add]; exact h1 s hs
  · rw [Nat.zero_add, Nat.zero_add]; exact h2 c hc
  · rw [Nat.zero_add, Nat.zero_add, Nat.zero_add]; exact h4 i hi
  · rw [Nat.zero_add]; exact h6 i hi
theorem setSheet (hB : RBu (k, z, t, n, g, ks, kb, kw, kc, ss, hs, hn) w 0) (x : Int32) : RBu (k, z, t, n, g, ks, kb, kw, kc, x, hs, hn) (vp_updL w 169 (Int32.toInt64 x)) 0 := by
  refine RB0 (fun s hs => ?_) (fun c hc => ?_) ?_ (fun i hi => ?_) ?_ (fun i hi => ?_)
  · rw [pk_uLn (by omega), pk_uLn (by omega)]; exact rb1 hB hs
  · rw [pk_uLn (by omega), pk_uLn (by omega)]; exact rb2 hB hc
  · rw [pk_uLn (by omega)]; exact rb3 hB
  · rw [pk_uLn (by omega), pk_uLn (by omega), pk_uLn (by omega)]; exact rb4 hB hi
  · rw [pk_uLs, pk_uLn (by omega), pk_uLn (by omega)]; exact ⟨rfl, (rb5 hB).2⟩
  · rw [pk_uLn (by omega)]; exact rb6 hB hi
theorem setHand (hB : RBu (k, z, t, n, g, ks, kb, kw, kc, ss, hs, hn) w 0) (x : Int32) (y : Int64) : RBu (k, z, t, n, g, ks, kb, kw, kc, ss, x, y) (vp_updL (vp_updL w 170 (Int32.toInt64 x)) 171 y) 0 := by
  refine RB0 (fun s hs => ?_) (fun c hc => ?_) ?_ (fun i hi => ?_) ?_ (fun i hi => ?_)
  · rw [pk_uLn (by omega), pk_uLn (by omega), pk_uLn (by omega), pk_uLn (by omega)]; exact rb1 hB hs
  · rw [pk_uLn (by omega), pk_uLn (by omega), pk_uLn (by omega), pk_uLn (by omega)]; exact rb2 hB hc
  · rw [pk_uLn (by omega), pk_uLn (by omega)]; exact rb3 hB
  · rw [pk_uLn (by omega), pk_uLn (by omega), pk_uLn (by omega), pk_uLn (by omega), pk_uLn (by omega), pk_uLn (by omega)]; exact rb4 hB hi
  · exact ⟨by rw [pk_uLn (by omega), pk_uLn (by omega)]; exact (rb5 hB).1, by rw [pk_uLn (by omega), pk_uLs], pk_uLs⟩
  · rw [pk_uLn (by omega), pk_uLn (by omega)]; exact rb6 hB hi
theorem setWeight (hB : RBu (k, z, t, n, g, ks, kb, kw, kc, ss, hs, hn) w 0) {τ : Nat} (hτ : τ < 8) (x : Int32) : RBu (k, z, t, n, upd g τ x, ks, kb, kw, kc, ss, hs, hn) (vp_updL w (172 + τ) (Int32.toInt64 x)) 0 := by
  refine RB0 (fun s hs => ?_) (fun c hc => ?_) ?_ (fun i hi => ?_) ?_ (fun i hi => ?_)
  · rw [pk_uLn (by omega), pk_uLn (by omega)]; exact rb1 hB hs
  · rw [pk_uLn (by omega), pk_uLn (by omega)]; exact rb2 hB hc
  · rw [pk_uLn (by omega)]; exact rb3 hB
  · rw [pk_uLn (by omega), pk_uLn (by omega), pk_uLn (by omega)]; exact rb4 hB hi
  · rw [pk_uLn (by omega), pk_uLn (by omega), pk_uLn (by omega)]; exact rb5 hB
  · by_cases e : i = τ
    · subst e; rw [pk_uLs, pk_us]
    · rw [pk_uLn (by omega), pk_un e]; exact rb6 hB hi
theorem setKC (hB : RBu (k, z, t, n, g, ks, kb, kw, kc, ss, hs, hn) w 0) (x : Int32) : RBu (k, z, t, n, g, ks, kb, kw, x, ss, hs, hn) (vp_updL w 156 (Int32.toInt64 x)) 0 := by
  refine RB0 (fun s hs => ?_) (fun c hc => ?_) pk_uLs (fun i hi => ?_) ?_ (fun i hi => ?_)
  · rw [pk_uLn (by omega), pk_uLn (by omega)]; exact rb1 hB hs
  · rw [pk_uLn (by omega), pk_uLn (by omega)]; exact rb2 hB hc
  · rw [pk_uLn (by omega), pk_uLn (by omega), pk_uLn (by omega)]; exact rb4 hB hi
  · rw [pk_uLn (by omega), pk_uLn (by omega), pk_uLn (by omega)]; exact rb5 hB
  · rw [pk_uLn (by omega)]; exact rb6 hB hi
theorem setKey (hB : RBu (k, z, t, n, g, ks, kb, kw, kc, ss, hs, hn) w 0) {K : Nat} (hK : K < 4) (x y v : Int32) : RBu (k, z, t, n, g, upd ks K x, upd kb K y, upd kw K v, kc, ss, hs, hn) (vp_updL (vp_updL (vp_updL w (157 + 3 * K) (Int32.toInt64 x)) (158 + 3 * K) (Int32.toInt64 y)) (159 + 3 * K) (Int32.toInt64 v)) 0 := by
  have far : ∀ j, j < 157 + 3 * K ∨ 160 + 3 * K ≤ j → (vp_updL (vp_updL (vp_updL w (157 + 3 * K) (Int32.toInt64 x)) (158 + 3 * K) (Int32.toInt64 y)) (159 + 3 * K) (Int32.toInt64 v)) j = w j := by
    intro j hj
    rw [pk_uLn (by omega), pk_uLn (by omega), pk_uLn (by omega)]
  refine RB0 (fun s hs => ?_) (fun c hc => ?_) ?_ (fun i hi => ?_) ?_ (fun i hi => ?_)
  · rw [far _ (by omega), far _ (by omega)]; exact rb1 hB hs
  · rw [far _ (by omega), far _ (by omega)]; exact rb2 hB hc
  · rw [far _ (by omega)]; exact rb3 hB
  · by_cases e : i = K
    · subst e
      refine ⟨?_, ?_, ?_⟩
      · rw [pk_uLn (by omega), pk_uLn (by omega), pk_uLs, pk_us]
      · rw [pk_uLn (by omega), pk_uLs, pk_us]
      · rw [pk_uLs, pk_us]
    · rw [far _ (by omega), far _ (by omega), far _ (by omega), pk_un e, pk_un e, pk_un e]; exact rb4 hB hi
  · rw [far _ (by omega), far _ (by omega), far _ (by omega)]; exact rb5 hB
  · rw [far _ (by omega)]; exact rb6 hB hi
end ST1
theorem relD {u : BT} {ir is ik : Nat → Int32} {rnd nx ct un sd en kct : Int32} {hst : HT} {kp kq bp bq : Nat → Int32} {w w' : Nat → Int64} (hW : WFu u) (hB : RBu u w' 0) (hlow : ∀ j, 180 ≤ j → w' j = w j) (hH : RelH nx ct hst w un) (hI : RelI ir hst w is ik) (hS : sd = rnd ∧ 0 ≤ rnd.toInt) (hK : RelB kp kq kct en bp bq) : Rel u ir rnd nx ct hst kp kq kct w' is ik un sd en bp bq :=
  ⟨hW, hB, RelH_mv (fun j hj => hlow j (by omega)) hH, RelI_mv (fun j hj _ => hlow j hj) (fun _ _ => rfl) hI, hS, hK⟩
theorem sim_sheet {b_kinds : Nat → Int32} {b_sizes : Nat → Int32} {b_sorts : Nat → Int32} {b_numbers : Nat → Int64} {b_weights : Nat → Int32} {b_keySlots : Nat → Int32} {b_keyBys : Nat → Int32} {b_keyWays : Nat → Int32} {b_keyCount : Int32} {b_sheetSet : Int32} {b_handSort : Int32} {b_handNumber : Int64} {x_imageRandoms : Nat → Int32} {x_random : Int32} {h_next : Int32} {h_count : Int32} {k_places : Nat → Int32} {k_positions : Nat → Int32} {k_count : Int32} {w_w : Nat → Int64} {w_imageSeed : Nat → Int32} {w_isKept : Nat → Int32} {w_undos : Int32} {w_seed : Int32} {w_entries : Int32} {w_bookPlace : Nat → Int32} {w_bookPosition : Nat → Int32} {P_hs : HT} (hR : Rel (b_kinds, b_sizes, b_sorts, b_numbers, b_weights, b_keySlots, b_keyBys, b_keyWays, b_keyCount, b_sheetSet, b_handSort, b_handNumber) x_imageRandoms x_random h_next h_count P_hs k_places k_positions k_count w_w w_imageSeed w_isKept w_undos w_seed w_entries w_bookPlace w_bookPosition) (x1 : Int32) : ∃ (zc : Int32 × Int32 × Int32 × Int32 × HT) (zm : Int32 × (Nat → Int64) × Int32), f_X5_sheet b_kinds b_sizes b_sorts b_numbers b_weights b_keySlots b_keyBys b_keyWays b_keyCount b_sheetSet b_handSort b_handNumber h_next h_count P_hs x1 = some zc ∧ f_X6_sheet w_w w_undos x1 = some zm ∧ zc.1 = zm.1 ∧ Rel (b_kinds, b_sizes, b_sorts, b_numbers, b_weights, b_keySlots, b_keyBys, b_keyWays, b_keyCount, zc.2.1, b_handSort, b_handNumber) x_imageRandoms x_random zc.2.2.1 zc.2.2.2.1 zc.2.2.2.2 k_places k_positions k_count zm.2.1 w_imageSeed w_isKept zm.2.2 w_seed w_entries w_bookPlace w_bookPosition := by
  obtain ⟨hW, hB, hH, hI, hS, hK⟩ := hR
  unfold f_X5_sheet f_X6_sheet
  rcases inC x1 0 63 0 63 rfl rfl with ⟨h1, h2, _⟩ | ⟨h1, h2, h3⟩
  · rw [h1, h2]; exact ⟨_, _, rfl, rfl, rfl, hW, hB, hH, hI, hS, hK⟩
  obtain ⟨nx', ct', hs', w', un', e1, e2, hB', hH', hI'⟩ := remember_s hW hB hH hI
  rw [h1, h2, e1, e2]
  simp only [Option.bind_some, if_neg z10, sheetM_s hB', show Int32.toNatClampNeg 169 = 169 from rfl]
  refine ⟨_, _, rfl, rfl, rfl, relD ⟨hW.1, hW.2.1, hW.2.2.1, hW.2.2.2.1, hW.2.2.2.2.1, h3, hW.2.2.2.2.2.2⟩ (setSheet hB' x1) (fun j hj => ?_) hH' hI' hS hK⟩
  show vp_updL w' 169 _ j = _
  rw [pk_uLn (by omega)]
theorem kcm_d : ∀ j, j < 4 → (Int32.toInt64 (nI (j + 1))) - (1 : Int64) = Int32.toInt64 (nI j) ∧ (Int32.toInt64 (nI j)) + (1 : Int64) = Int32.toInt64 (nI (j + 1)) ∧ nI (j + 1) - (1 : Int32) = nI j := by decide +kernel
theorem sim_unkey {b_kinds : Nat → Int32} {b_sizes : Nat → Int32} {b_sorts : Nat → Int32} {b_numbers : Nat → Int64} {b_weights : Nat → Int32} {b_keySlots : Nat → Int32} {b_keyBys : Nat → Int32} {b_keyWays : Nat → Int32} {b_keyCount : Int32} {b_sheetSet : Int32} {b_handSort : Int32} {b_handNumber : Int64} {x_imageRandoms : Nat → Int32} {x_random : Int32} {h_next : Int32} {h_count : Int32} {k_places : Nat → Int32} {k_positions : Nat → Int32} {k_count : Int32} {w_w : Nat → Int64} {w_imageSeed : Nat → Int32} {w_isKept : Nat → Int32} {w_undos : Int32} {w_seed : Int32} {w_entries : Int32} {w_bookPlace : Nat → Int32} {w_bookPosition : Nat → Int32} {P_hs : HT} (hR : Rel (b_kinds, b_sizes, b_sorts, b_numbers, b_weights, b_keySlots, b_keyBys, b_keyWays, b_keyCount, b_sheetSet, b_handSort, b_handNumber) x_imageRandoms x_random h_next h_count P_hs k_places k_positions k_count w_w w_imageSeed w_isKept w_undos w_seed w_entries w_bookPlace w_bookPosition) : ∃ (zc : Int32 × Int32 × Int32 × Int32 × HT) (zm : Int32 × (Nat → Int64) × Int32), f_X5_unkey b_kinds b_sizes b_sorts b_numbers b_weights b_keySlots b_keyBys b_keyWays b_keyCount b_sheetSet b_handSort b_handNumber h_next h_count P_hs = some zc ∧ f_X6_unkey w_w w_undos = some zm ∧ zc.1 = zm.1 ∧ Rel (b_kinds, b_sizes, b_sorts, b_numbers, b_weights, b_keySlots, b_keyBys, b_keyWays, zc.2.1, b_sheetSet, b_handSort, b_handNumber) x_imageRandoms x_random zc.2.2.1 zc.2.2.2.1 zc.2.2.2.2 k_places k_positions k_count zm.2.1 w_imageSeed w_isKept zm.2.2 w_seed w_entries w_bookPlace w_bookPosition := by
  obtain ⟨hW, hB, hH, hI, hS, hK⟩ := hR
  obtain ⟨K, hK5, eK⟩ := kcin hW
  unfold f_X5_unkey f_X6_unkey
  rw [keysM_s hB]
  cases K with
  | zero =>
    rw [eK]
    refine ⟨_, _, rfl, rfl, rfl, ?_⟩
    show Rel _ _ _ _ _ _ _ _ _ _ _ _ _ _ _ _ _
    rw [← eK]
    exact ⟨hW, hB, hH, hI, hS, hK⟩
  | succ K =>
    obtain ⟨nx', ct', hs', w', un', e1, e2, hB', hH', hI'⟩ := remember_s hW hB hH hI
    obtain ⟨d1, d2, d3⟩ := kcm_d K (by omega)
    have h0 : 0 < b_keyCount := by rw [eK]; exact (show nI 0 < nI (K + 1) from nI_lt (by omega) (by omega))
    have hz : ¬ b_keyCount = 0 := by rw [eK]; exact nI_ne0 (by omega) (by omega)
    have hset := setKC hB' (nI K)
    have ew : w' 156 - (1 : Int64) = Int32.toInt64 (nI K) := by rw [rb3 hB', eK, d1]
    rw [e1, e2]
    simp only [Option.bind_some, if_pos h0, if_neg hz, show Int32.toNatClampNeg 156 = 156 from rfl, ew, keysM_s hset]
    have ek1 : b_keyCount - (1 : Int32) = nI K := by rw [eK, d3]
    rw [ek1]
    refine ⟨_, _, rfl, rfl, rfl, relD ⟨hW.1, hW.2.1, hW.2.2.1, hW.2.2.2.1, ?_, hW.2.2.2.2.2⟩ hset (fun j hj => ?_) hH' hI' hS hK⟩
    · show 0 ≤ (nI K).toInt ∧ (nI K).toInt ≤ 4
      rw [nI_toInt (by omega)]; omega
    · show vp_updL w' 156 _ j = _
      rw [pk_uLn (by omega)]
theorem sim_weigh {b_kinds : Nat → Int32} {b_sizes : Nat → Int32} {b_sorts : Nat → Int32} {b_numbers : Nat → Int64} {b_weights : Nat → Int32} {b_keySlots : Nat → Int32} {b_keyBys : Nat → Int32} {b_keyWays : Nat → Int32} {b_keyCount : Int32} {b_sheetSet : Int32} {b_handSort : Int32} {b_handNumber : Int64} {x_imageRandoms : Nat → Int32} {x_random : Int32} {h_next : Int32} {h_count : Int32} {k_places : Nat → Int32} {k_positions : Nat → Int32} {k_count : Int32} {w_w : Nat → Int64} {w_imageSeed : Nat → Int32} {w_isKept : Nat → Int32} {w_undos : Int32} {w_seed : Int32} {w_entries : Int32} {w_bookPlace : Nat → Int32} {w_bookPosition : Nat → Int32} {P_hs : HT} (hR : Rel (b_kinds, b_sizes, b_sorts, b_numbers, b_weights, b_keySlots, b_keyBys, b_keyWays, b_keyCount, b_sheetSet, b_handSort, b_handNumber) x_imageRandoms x_random h_next h_count P_hs k_places k_positions k_count w_w w_imageSeed w_isKept w_undos w_seed w_entries w_bookPlace w_bookPosition) (x1 : Int32) (x2 : Int32) : ∃ (zc : Int32 × (Nat → Int32) × Int32 × Int32 × HT) (zm : Int32 × (Nat → Int64) × Int32), f_X5_weigh b_kinds b_sizes b_sorts b_numbers b_weights b_keySlots b_keyBys b_keyWays b_keyCount b_sheetSet b_handSort b_handNumber h_next h_count P_hs x1 x2 = some zc ∧ f_X6_weigh w_w w_undos x1 x2 = some zm ∧ zc.1 = zm.1 ∧ Rel (b_kinds, b_sizes, b_sorts, b_numbers, zc.2.1, b_keySlots, b_keyBys, b_keyWays, b_keyCount, b_sheetSet, b_handSort, b_handNumber) x_imageRandoms x_random zc.2.2.1 zc.2.2.2.1 zc.2.2.2.2 k_places k_positions k_count zm.2.1 w_imageSeed w_isKept zm.2.2 w_seed w_entries w_bookPlace w_bookPosition := by
  obtain ⟨hW, hB, hH, hI, hS, hK⟩ := hR
  unfold f_X5_weigh f_X6_weigh
  rcases isTag_v x1 with ⟨h1, h2⟩ | ⟨τ, hτ, rfl, h1, h2⟩
  · rw [h1, h2]; exact ⟨_, _, rfl, rfl, rfl, hW, hB, hH, hI, hS, hK⟩
  rcases inC x2 (-1000) 1000 (-1000) 1000 rfl rfl with ⟨h3, h4, _⟩ | ⟨h3, h4, h5⟩
  · rw [h1, h2, h3, h4]; exact ⟨_, _, rfl, rfl, rfl, hW, hB, hH, hI, hS, hK⟩
  obtain ⟨nx', ct', hs', w', un', e1, e2, hB', hH', hI'⟩ := remember_s hW hB hH hI
  have g1 : f_X0_weightOf b_weights (nI τ) = some (b_weights τ) := by
    unfold f_X0_weightOf
    rw [h1, Option.bind_some, if_neg z10, if_pos (ib_n hτ (by omega)), nI_clamp (by omega)]
  have g2 : f_X0_setWeight b_weights (nI τ) x2 = some (upd b_weights τ x2) := by
    unfold f_X0_setWeight
    rw [h1, Option.bind_some, if_neg z10, if_pos (ib_n hτ (by omega)), nI_clamp (by omega)]
    rfl
  rw [h1, h2, h3, h4, e1, e2, g1, g2, n172, nI_add]
  simp only [Option.bind_some, if_neg z10, ib_n (show 172 + τ < 3420 by omega) (show 3420 < 2 ^ 31 by omega), if_true, nI_clamp (show 172 + τ < 2 ^ 31 by omega), rb6 hB' hτ, t6432]
  refine ⟨_, _, rfl, rfl, rfl, relD ⟨hW.1, hW.2.1, ?_, hW.2.2.2⟩ (setWeight hB' hτ x2) (fun j hj => ?_) hH' hI' hS hK⟩
  · intro i hi
    show -1000 ≤ (upd b_weights τ x2 i).toInt ∧ (upd b_weights τ x2 i).toInt ≤ 1000
    by_cases e : i = τ
    · subst e; rw [pk_us]; exact h5
    · rw [pk_un e]; exact hW.2.2.1 i hi
  · show vp_updL w' (172 + τ) _ j = _
    rw [pk_uLn (by omega)]
theorem sim_key {b_kinds : Nat → Int32} {b_sizes : Nat → Int32} {b_sorts : Nat → Int32} {b_numbers : Nat → Int64} {b_weights : Nat → Int32} {b_keySlots : Nat → Int32} {b_keyBys : Nat → Int32} {b_keyWays : Nat → Int32} {b_keyCount : Int32} {b_sheetSet : Int32} {b_handSort : Int32} {b_handNumber : Int64} {x_imageRandoms : Nat → Int32} {x_random : Int32} {h_next : Int32} {h_count : Int32} {k_places : Nat → Int32} {k_positions : Nat → Int32} {k_count : Int32} {w_w : Nat → Int64} {w_imageSeed : Nat → Int32} {w_isKept : Nat → Int32} {w_undos : Int32} {w_seed : Int32} {w_entries : Int32} {w_bookPlace : Nat → Int32} {w_bookPosition : Nat → Int32} {P_hs : HT} (hR : Rel (b_kinds, b_sizes, b_sorts, b_numbers, b_weights, b_keySlots, b_keyBys, b_keyWays, b_keyCount, b_sheetSet, b_handSort, b_handNumber) x_imageRandoms x_random h_next h_count P_hs k_places k_positions k_count w_w w_imageSeed w_isKept w_undos w_seed w_entries w_bookPlace w_bookPosition) (x1 : Int32) (x2 : Int32) (x3 : Int32) : ∃ (zc : Int32 × (Nat → Int32) × (Nat → Int32) × (Nat → Int32) × Int32 × Int32 × Int32 × HT) (zm : Int32 × (Nat → Int64) × Int32), f_X5_key b_kinds b_sizes b_sorts b_numbers b_weights b_keySlots b_keyBys b_keyWays b_keyCount b_sheetSet b_handSort b_handNumber h_next h_count P_hs x1 x2 x3 = some zc ∧ f_X6_key w_w w_undos x1 x2 x3 = some zm ∧ zc.1 = zm.1 ∧ Rel (b_kinds, b_sizes, b_sorts, b_numbers, b_weights, zc.2.1, zc.2.2.1, zc.2.2.2.1, zc.2.2.2.2.1, b_sheetSet, b_handSort, b_handNumber) x_imageRandoms x_random zc.2.2.2.2.2.1 zc.2.2.2.2.2.2.1 zc.2.2.2.2.2.2.2 k_places k_positions k_count zm.2.1 w_imageSeed w_isKept zm.2.2 w_seed w_entries w_bookPlace w_bookPosition := by
  obtain ⟨hW, hB, hH, hI, hS, hK⟩ := hR
  obtain ⟨K, hK5, eK⟩ := kcin hW
  unfold f_X5_key f_X6_key
  rcases slotC x1 with ⟨h1, h2⟩ | ⟨s, hs, rfl, h1, h2⟩
  · rw [h1, h2]; exact ⟨_, _, rfl, rfl, rfl, hW, hB, hH, hI, hS, hK⟩
  rcases inC x2 0 8 0 8 rfl rfl with ⟨h3, h4, _⟩ | ⟨h3, h4, h5⟩
  · rw [h1, h2, h3, h4]; exact ⟨_, _, rfl, rfl, rfl, hW, hB, hH, hI, hS, hK⟩
  rcases inC x3 0 1 0 1 rfl rfl with ⟨h6, h7, _⟩ | ⟨h6, h7, h8⟩
  · rw [h1, h2, h3, h4, h6, h7]; exact ⟨_, _, rfl, rfl, rfl, hW, hB, hH, hI, hS, hK⟩
  rw [h1, h2, h3, h4, h6, h7, keysM_s hB]
  by_cases h4K : K = 4
  · have c1 : ¬ b_keyCount < 4 := by rw [eK, h4K]; decide
    have c2 : b_keyCount = 4 := by rw [eK, h4K]; rfl
    simp only [Option.bind_some, if_neg z10, if_neg c1, if_pos c2]
    exact ⟨_, _, rfl, rfl, rfl, hW, hB, hH, hI, hS, hK⟩
  · obtain ⟨nx', ct', hs', w', un', e1, e2, hB', hH', hI'⟩ := remember_s hW hB hH hI
    obtain ⟨d1, d2, d3⟩ := kcm_d K (by omega)
    have c1 : b_keyCount < 4 := by rw [eK]; exact (show nI K < nI 4 from nI_lt (by omega) (by omega))
    have c2 : ¬ b_keyCount = 4 := by rw [eK, show (4 : Int32) = nI 4 from rfl, nI_eq (by omega) (by omega)]; exact h4K
    have g1 : f_X0_addKey b_keySlots b_keyBys b_keyWays b_keyCount (nI s) x2 x3 = some (upd b_keySlots K (nI s), upd b_keyBys K x2, upd b_keyWays K x3, nI (K + 1)) := by
      unfold f_X0_addKey
      have c3 : ¬ (4 : Int32) ≤ nI K := show ¬ nI 4 ≤ nI K from nI_ge (by omega) (by omega)
      rw [eK]
      simp only [if_neg (nI_pos (show K < 2 ^ 31 by omega)), if_neg c3, ib_n (show K < 4 by omega) (show 4 < 2 ^ 31 by omega), if_true, nI_clamp (show K < 2 ^ 31 by omega), Option.bind_some, nI_1]
    have hs1 := setKC (setKey hB' (show K < 4 by omega) (nI s) x2 x3) (nI (K + 1))
    have ew : (vp_updL (vp_updL (vp_updL w' (157 + 3 * K) (Int32.toInt64 (nI s))) (158 + 3 * K) (Int32.toInt64 x2)) (159 + 3 * K) (Int32.toInt64 x3)) 156 + (1 : Int64) = Int32.toInt64 (nI (K + 1)) := by
      rw [pk_uLn (by omega), pk_uLn (by omega), pk_uLn (by omega), rb3 hB', eK, d2]
    rw [e1, e2, g1]
    simp only [Option.bind_some, if_neg z10, if_pos c1, if_neg c2, keysM_s hB', show Int32.toNatClampNeg 156 = 156 from rfl]
    rw [eK, n157, n3, pk_mul, nI_add, n1, nI_add, n2, nI_add]
    simp only [ib_n (show 157 + 3 * K < 3420 by omega) (show 3420 < 2 ^ 31 by omega), ib_n (show 157 + 3 * K + 1 < 3420 by omega) (show 3420 < 2 ^ 31 by omega), ib_n (show 157 + 3 * K + 2 < 3420 by omega) (show 3420 < 2 ^ 31 by omega), nI_clamp (show 157 + 3 * K < 2 ^ 31 by omega), nI_clamp (show 157 + 3 * K + 1 < 2 ^ 31 by omega), nI_clamp (show 157 + 3 * K + 2 < 2 ^ 31 by omega), if_true]
    rw [show 157 + 3 * K + 1 = 158 + 3 * K by omega, show 157 + 3 * K + 2 = 159 + 3 * K by omega, ew, keysM_s hs1]
    simp only [Option.bind_some]
    refine ⟨_, _, rfl, rfl, rfl, relD ⟨hW.1, hW.2.1, hW.2.2.1, ?_, ?_, hW.2.2.2.2.2⟩ hs1 (fun j hj => ?_) hH' hI' hS hK⟩
    · intro i hi
      show 0 ≤ (upd b_keySlots K (nI s) i).toInt ∧ (upd b_keySlots K (nI s) i).toInt ≤ 5 ∧ 0 ≤ (upd b_keyBys K x2 i).toInt ∧ (upd b_keyBys K x2 i).toInt ≤ 8 ∧ 0 ≤ (upd b_keyWays K x3 i).toInt ∧ (upd b_keyWays K x3 i).toInt ≤ 1
      by_cases e : i = K
      · subst e
        rw [pk_us, pk_us, pk_us, nI_toInt (by omega)]
        exact ⟨by omega, by omega, h5.1, h5.2, h8.1, h8.2⟩
      · rw [pk_un e, pk_un e, pk_un e]; exact hW.2.2.2.1 i hi
    · show 0 ≤ (nI (K + 1)).toInt ∧ (nI (K + 1)).toInt ≤ 4
      rw [nI_toInt (by omega)]; omega
    · show vp_updL (vp_updL (vp_updL (vp_updL w' (157 + 3 * K) _) (158 + 3 * K) _) (159 + 3 * K) _) 156 _ j = _
      rw [pk_uLn (by omega), pk_uLn (by omega), pk_uLn (by omega), pk_uLn (by omega)]
theorem isTag_64 (v : Int64) : (f_X5_isTag v = some 0 ∧ f_X6_in v 0 7 = some 0) ∨ (f_X5_isTag v = some 1 ∧ f_X6_in v 0 7 = some 1 ∧ 0 ≤ v.toInt ∧ v.toInt ≤ 7) := by
  rw [in_v]
  unfold f_X5_isTag
  simp only [lc_lt, lc_ge]
  have e0 : (0 : Int64).toInt = 0 := rfl
  have e7 : (7 : Int64).toInt = 7 := rfl
  have e8 : (8 : Int64).toInt = 8 := rfl
  rw [e0, e7, e8]
  by_cases h : 0 ≤ v.toInt ∧ v.toInt ≤ 7
  · rw [if_neg (by omega), if_neg (by omega), if_pos (by omega)]
    exact Or.inr ⟨rfl, rfl, h⟩
  · by_cases h1 : v.toInt < 0
    · rw [if_pos h1, if_neg h]; exact Or.inl ⟨rfl, rfl⟩
    · rw [if_neg h1, if_pos (by omega), if_neg h]; exact Or.inl ⟨rfl, rfl⟩
theorem sim_take {b_kinds : Nat → Int32} {b_sizes : Nat → Int32} {b_sorts : Nat → Int32} {b_numbers : Nat → Int64} {b_weights : Nat → Int32} {b_keySlots : Nat → Int32} {b_keyBys : Nat → Int32} {b_keyWays : Nat → Int32} {b_keyCount : Int32} {b_sheetSet : Int32} {b_handSort : Int32} {b_handNumber : Int64} {x_imageRandoms : Nat → Int32} {x_random : Int32} {h_next : Int32} {h_count : Int32} {k_places : Nat → Int32} {k_positions : Nat → Int32} {k_count : Int32} {w_w : Nat → Int64} {w_imageSeed : Nat → Int32} {w_isKept : Nat → Int32} {w_undos : Int32} {w_seed : Int32} {w_entries : Int32} {w_bookPlace : Nat → Int32} {w_bookPosition : Nat → Int32} {P_hs : HT} (hR : Rel (b_kinds, b_sizes, b_sorts, b_numbers, b_weights, b_keySlots, b_keyBys, b_keyWays, b_keyCount, b_sheetSet, b_handSort, b_handNumber) x_imageRandoms x_random h_next h_count P_hs k_places k_positions k_count w_w w_imageSeed w_isKept w_undos w_seed w_entries w_bookPlace w_bookPosition) (x1 : Int32) (x2 : Int64) : ∃ (zc : Int32 × Int32 × Int64 × Int32 × Int32 × HT) (zm : Int32 × (Nat → Int64) × Int32), f_X5_take b_kinds b_sizes b_sorts b_numbers b_weights b_keySlots b_keyBys b_keyWays b_keyCount b_sheetSet b_handSort b_handNumber h_next h_count P_hs x1 x2 = some zc ∧ f_X6_take w_w w_undos x1 x2 = some zm ∧ zc.1 = zm.1 ∧ Rel (b_kinds, b_sizes, b_sorts, b_numbers, b_weights, b_keySlots, b_keyBys, b_keyWays, b_keyCount, b_sheetSet, zc.2.1, zc.2.2.1) x_imageRandoms x_random zc.2.2.2.1 zc.2.2.2.2.1 zc.2.2.2.2.2 k_places k_positions k_count zm.2.1 w_imageSeed w_isKept zm.2.2 w_seed w_entries w_bookPlace w_bookPosition := by
  obtain ⟨hW, hB, hH, hI, hS, hK⟩ := hR
  unfold f_X5_take f_X6_take
  rcases inC x1 0 9 0 9 rfl rfl with ⟨h1, h2, _⟩ | ⟨h1, h2, h3⟩
  · rw [h1, h2]; exact ⟨_, _, rfl, rfl, rfl, hW, hB, hH, hI, hS, hK⟩
  obtain ⟨a, ha, rfl⟩ := inN (N := 10) h3.1 (by have := h3.2; have e9 : (9 : Int32).toInt = 9 := rfl; omega)
  obtain ⟨nx', ct', hs', w', un', e1, e2, hB', hH', hI'⟩ := remember_s hW hB hH hI
  have h170 : Int64.toInt32 (w' 170) = b_handSort := by rw [(rb5 hB').2.1, t6432]
  have g1 : f_X0_setHand b_handSort b_handNumber (nI a) (mk a x2) = some (nI a, mk a x2) := rfl
  have hfin : ∀ y, y = mk a x2 → (a = 8 → 0 ≤ x2.toInt ∧ x2.toInt ≤ 7) → Rel (b_kinds, b_sizes, b_sorts, b_numbers, b_weights, b_keySlots, b_keyBys, b_keyWays, b_keyCount, b_sheetSet, nI a, mk a x2) x_imageRandoms x_random nx' ct' hs' k_places k_positions k_count (vp_updL (vp_updL w' 170 (Int32.toInt64 (nI a))) 171 y) w_imageSeed w_isKept un' w_seed w_entries w_bookPlace w_bookPosition := by
    intro y hy h8
    rw [hy]
    refine relD ⟨hW.1, hW.2.1, hW.2.2.1, hW.2.2.2.1, hW.2.2.2.2.1, hW.2.2.2.2.2.1, ok_mk x2 ha h8⟩ (setHand hB' (nI a) (mk a x2)) (fun j hj => ?_) hH' hI' hS hK
    rw [pk_uLn (by omega), pk_uLn (by omega)]
  rw [h1, h2, Option.bind_some, Option.bind_some, if_neg z10, if_neg z10]
  have n9 : (nI a = 9) ↔ a = 9 := by rw [show (9 : Int32) = nI 9 from rfl, nI_eq (by omega) (by omega)]
  by_cases h8 : a = 8
  · have c8 : nI a = 8 := by rw [h8]; rfl
    have c9 : ¬ nI a = 9 := fun q => by have := n9.mp q; omega
    rw [if_pos c8, if_pos c8]
    rcases isTag_64 x2 with ⟨q1, q2⟩ | ⟨q1, q2, q3⟩
    · rw [q1, q2]; exact ⟨_, _, rfl, rfl, rfl, hW, hB, hH, hI, hS, hK⟩
    rw [q1, q2, e1, e2, made_s, madeOf_s (by omega)]
    simp only [Option.bind_some, if_neg z10, g1, if_neg c9, show Int32.toNatClampNeg 170 = 170 from rfl, show Int32.toNatClampNeg 171 = 171 from rfl, h170]
    exact ⟨_, _, rfl, rfl, rfl, hfin _ rfl (fun _ => q3)⟩
  · have c8 : ¬ nI a = 8 := fun q => h8 (by rw [show (8 : Int32) = nI 8 from rfl, nI_eq (by omega) (by omega)] at q; exact q)
    rw [if_neg c8, if_neg c8, e1, e2, made_s]
    by_cases h9 : a = 9
    · have c9 := n9.mpr h9
      simp only [Option.bind_some, g1, if_pos c9, show Int32.toNatClampNeg 170 = 170 from rfl, show Int32.toNatClampNeg 171 = 171 from rfl, h170]
      exact ⟨_, _, rfl, rfl, rfl, hfin _ (by rw [h9]; rfl) (fun q => absurd q h8)⟩
    · have c9 : ¬ nI a = 9 := fun q => h9 (n9.mp q)
      rw [madeOf_s (by omega)]
      simp only [Option.bind_some, g1, if_neg c9, show Int32.toNatClampNeg 170 = 170 from rfl, show Int32.toNatClampNeg 171 = 171 from rfl, h170]
      exact ⟨_, _, rfl, rfl, rfl, hfin _ rfl (fun q => absurd q h8)⟩
