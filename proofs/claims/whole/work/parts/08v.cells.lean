/-! cells set: pick, put, would -/
section SC1
variable {k z t g ks kb kw : Nat → Int32} {n : Nat → Int64} {kc ss hs : Int32} {hn : Int64} {w : Nat → Int64}
theorem setCell_n {s i : Nat} (h : s < 6) (hi : i < 12) (a : Int32) (v : Int64) : f_X0_setCell t n (nI s) (nI i) a v = some (upd t (12 * s + i) a, vp_updL n (12 * s + i) v) := by
  unfold f_X0_setCell
  rw [isCell_n h hi, Option.bind_some, if_neg z10, at_n]
  simp only [ib_n (show 12 * s + i < 72 by omega) (show 72 < 2 ^ 31 by omega), if_true, Option.bind_some, nI_clamp (show 12 * s + i < 2 ^ 31 by omega)]
theorem setCB (hB : RBu (k, z, t, n, g, ks, kb, kw, kc, ss, hs, hn) w 0) {c : Nat} (hc : c < 72) (a : Int32) (v : Int64) : RBu (k, z, upd t c a, vp_updL n c v, g, ks, kb, kw, kc, ss, hs, hn) (vp_updL (vp_updL w (12 + c) (Int32.toInt64 a)) (84 + c) v) 0 := by
  have far : ∀ j, j < 12 ∨ 156 ≤ j → (vp_updL (vp_updL w (12 + c) (Int32.toInt64 a)) (84 + c) v) j = w j := by
    intro j hj
    rw [pk_uLn (by omega), pk_uLn (by omega)]
  refine RB0 (fun s hs => ?_) (fun d hd => ?_) ?_ (fun i hi => ?_) ?_ (fun i hi => ?_)
  · rw [far _ (by omega), far _ (by omega)]; exact rb1 hB hs
  · by_cases e : d = c
    · subst e
      rw [pk_us, pk_uLs, pk_uLs, pk_uLn (by omega), pk_uLs]
      exact ⟨rfl, rfl⟩
    · rw [pk_un e, pk_uLn (by omega), pk_uLn (by omega), pk_uLn (by omega), pk_uLn (by omega), pk_uLn e]
      exact rb2 hB hd
  · rw [far _ (by omega)]; exact rb3 hB
  · rw [far _ (by omega), far _ (by omega), far _ (by omega)]; exact rb4 hB hi
  · rw [far _ (by omega), far _ (by omega), far _ (by omega)]; exact rb5 hB
  · rw [far _ (by omega)]; exact rb6 hB hi
theorem setCW (hW : WFu (k, z, t, n, g, ks, kb, kw, kc, ss, hs, hn)) {s i : Nat} (h : s < 6) (hi : i < 12) {a : Int32} {v : Int64} (ho : okV a v) (hk : (k s).toInt ≤ 7 → a = k s) : WFu (k, z, upd t (12 * s + i) a, vp_updL n (12 * s + i) v, g, ks, kb, kw, kc, ss, hs, hn) := by
  refine ⟨hW.1, fun s' i' hs' hi' => ?_, hW.2.2⟩
  show okV (upd t (12 * s + i) a (12 * s' + i')) (vp_updL n (12 * s + i) v (12 * s' + i')) ∧ ((k s').toInt ≤ 7 → upd t (12 * s + i) a (12 * s' + i') = k s')
  by_cases e : 12 * s' + i' = 12 * s + i
  · have e1 : s' = s := by omega
    rw [e, pk_us, pk_uLs, e1]
    exact ⟨ho, hk⟩
  · rw [pk_un e, pk_uLn e]
    exact hW.2.1 s' i' hs' hi'
theorem kind_w {s : Nat} (h : s < 6) (e : w s = Int32.toInt64 (k s)) : f_X6_kind w (nI s) = some (k s) := by
  unfold f_X6_kind
  rw [n0, nI_add, if_pos (ib_n (by omega) (by decide)), nI_clamp (by omega), Nat.zero_add, e, t6432]
theorem n7 : (7 : Int32) = nI 7 := rfl
theorem store_s (hW : WFu (k, z, t, n, g, ks, kb, kw, kc, ss, hs, hn)) (hB : RBu (k, z, t, n, g, ks, kb, kw, kc, ss, hs, hn) w 0) {s i κ a : Nat} (h : s < 6) (hi : i < 12) (hκ : κ < 12) (ek : k s = nI κ) (ha : a < 10) {v : Int64} (ho : okV (nI a) v) (ht : tk κ a (decide (4 ≤ v.toInt)) = true) : ∃ (a' : Int32) (v' : Int64), f_X0_store k t n (nI s) (nI i) (nI a) v = some (upd t (12 * s + i) a', vp_updL n (12 * s + i) v') ∧ f_X6_sets w (nI s) (nI i) (nI a) v = some (vp_updL (vp_updL w (12 + (12 * s + i)) (Int32.toInt64 a')) (84 + (12 * s + i)) v') ∧ okV a' v' ∧ ((k s).toInt ≤ 7 → a' = k s) := by
  have e1 : (12 : Int32) + nI (12 * s + i) = nI (12 + (12 * s + i)) := by rw [n12, nI_add]
  have e2 : (84 : Int32) + nI (12 * s + i) = nI (84 + (12 * s + i)) := by rw [n84, nI_add]
  have i1 := ib_n (show 12 + (12 * s + i) < 3420 by omega) (show 3420 < 2 ^ 31 by omega)
  have i2 := ib_n (show 84 + (12 * s + i) < 3420 by omega) (show 3420 < 2 ^ 31 by omega)
  unfold f_X0_store f_X6_sets
  rw [kindOf_n h, kindM_n hB h, atM_n, ek]
  simp only [Option.bind_some, e1, e2, i1, i2, if_true, nI_clamp (show 12 + (12 * s + i) < 2 ^ 31 by omega), nI_clamp (show 84 + (12 * s + i) < 2 ^ 31 by omega)]
  by_cases h7 : 7 < κ
  · have c7 : (7 : Int32) < nI κ := show nI 7 < nI κ from nI_lt h7 (by omega)
    rw [if_pos c7, if_pos c7, setCell_n h hi]
    exact ⟨nI a, v, rfl, rfl, ho, fun q => by rw [nI_toInt (by omega)] at q; omega⟩
  · have hk2 : f_X6_kind (vp_updL w (12 + (12 * s + i)) (Int32.toInt64 (nI κ))) (nI s) = some (nI κ) := by
      rw [kind_w (k := k) h (by rw [pk_uLn (by omega)]; exact (rb1 hB h).1), ek]
    unfold tk at ht
    rw [if_pos (by omega), Bool.and_eq_true, decide_eq_true_eq] at ht
    have c7 : ¬ (7 : Int32) < nI κ := show ¬ nI 7 < nI κ from nI_nlt (by omega) (by omega)
    rw [if_neg c7, if_neg c7, made_s, Option.bind_some, setCell_n h hi, hk2, Option.bind_some, Option.bind_some, gone_s (show a < 8 by omega) (show κ < 8 by omega) ht.2 ho]
    exact ⟨nI κ, mk κ v, rfl, rfl, ok_mk v (by omega) (fun q => by omega), fun _ => rfl⟩
theorem numberRead_cg {w w' : Nat → Int64} {s i : Nat} (h : s < 6) (hi : i < 12) (e : w' (84 + (12 * s + i)) = w (84 + (12 * s + i))) (b : Int32) : f_X6_numberRead w' (nI s) (nI i) b = f_X6_numberRead w (nI s) (nI i) b := by
  unfold f_X6_numberRead
  rw [atM_n]
  simp only [Option.bind_some, n84, nI_add, nI_clamp (show 84 + (12 * s + i) < 2 ^ 31 by omega), e]
end SC1
theorem mk_ok {a : Nat} (ha : a < 10) {v : Int64} (h : okV (nI a) v) : mk a v = v := by
  obtain ⟨_, h0, h1, h2, h3, h4, h6, h7, h8, h9⟩ := h
  have c : a = 0 ∨ a = 1 ∨ a = 2 ∨ a = 3 ∨ a = 4 ∨ a = 5 ∨ a = 6 ∨ a = 7 ∨ a = 8 ∨ a = 9 := by omega
  rcases c with rfl | rfl | rfl | rfl | rfl | rfl | rfl | rfl | rfl | rfl
  · rw [mk0]
    rcases h0 rfl with rfl | rfl <;> rfl
  · have := h1 rfl
    rw [mk1]
    refine k64 ?_
    rw [j8, Int.bmod_def, Int.bmod_def]; omega
  · have := h2 rfl
    rw [mk2]
    refine k64 ?_
    rw [jc]; omega
  · have := h3 rfl
    rw [mk3]
    refine k64 ?_
    rw [j16, Int.bmod_def, Int.bmod_def]; omega
  · have := h4 rfl
    rw [mk4]
    refine k64 ?_
    rw [j32, Int.bmod_def]; omega
  · rfl
  · exact h6 rfl
  · exact h7 rfl
  · rfl
  · rw [h9 rfl]; rfl
theorem sortN {a : Int32} {v : Int64} (h : okV a v) : ∃ b : Nat, b < 10 ∧ a = nI b := inN h.1.1 (by have := h.1.2; omega)
theorem sim_pick {b_kinds : Nat → Int32} {b_sizes : Nat → Int32} {b_sorts : Nat → Int32} {b_numbers : Nat → Int64} {b_weights : Nat → Int32} {b_keySlots : Nat → Int32} {b_keyBys : Nat → Int32} {b_keyWays : Nat → Int32} {b_keyCount : Int32} {b_sheetSet : Int32} {b_handSort : Int32} {b_handNumber : Int64} {x_imageRandoms : Nat → Int32} {x_random : Int32} {h_next : Int32} {h_count : Int32} {k_places : Nat → Int32} {k_positions : Nat → Int32} {k_count : Int32} {w_w : Nat → Int64} {w_imageSeed : Nat → Int32} {w_isKept : Nat → Int32} {w_undos : Int32} {w_seed : Int32} {w_entries : Int32} {w_bookPlace : Nat → Int32} {w_bookPosition : Nat → Int32} {P_hs : HT} (hR : Rel (b_kinds, b_sizes, b_sorts, b_numbers, b_weights, b_keySlots, b_keyBys, b_keyWays, b_keyCount, b_sheetSet, b_handSort, b_handNumber) x_imageRandoms x_random h_next h_count P_hs k_places k_positions k_count w_w w_imageSeed w_isKept w_undos w_seed w_entries w_bookPlace w_bookPosition) (x1 : Int32) (x2 : Int32) (x3 : Int32) : ∃ (zc : Int32 × Int32 × Int64 × Int32 × Int32 × HT) (zm : Int32 × (Nat → Int64) × Int32), f_X5_pick b_kinds b_sizes b_sorts b_numbers b_weights b_keySlots b_keyBys b_keyWays b_keyCount b_sheetSet b_handSort b_handNumber h_next h_count P_hs x1 x2 x3 = some zc ∧ f_X6_pick w_w w_undos x1 x2 x3 = some zm ∧ zc.1 = zm.1 ∧ Rel (b_kinds, b_sizes, b_sorts, b_numbers, b_weights, b_keySlots, b_keyBys, b_keyWays, b_keyCount, b_sheetSet, zc.2.1, zc.2.2.1) x_imageRandoms x_random zc.2.2.2.1 zc.2.2.2.2.1 zc.2.2.2.2.2 k_places k_positions k_count zm.2.1 w_imageSeed w_isKept zm.2.2 w_seed w_entries w_bookPlace w_bookPosition := by
  have hR0 := hR
  obtain ⟨hW, hB, hH, hI, hS, hK⟩ := hR
  unfold f_X5_pick f_X6_pick
  rcases slotC x1 with ⟨h1, h2⟩ | ⟨s, hs, rfl, h1, h2⟩
  · rw [h1, h2]; exact ⟨_, _, rfl, rfl, rfl, hW, hB, hH, hI, hS, hK⟩
  rcases inC x3 0 8 0 8 rfl rfl with ⟨h3, h4, _⟩ | ⟨h3, h4, h5⟩
  · rw [h1, h2, h3, h4]; exact ⟨_, _, rfl, rfl, rfl, hW, hB, hH, hI, hS, hK⟩
  obtain ⟨b, hb0, rfl⟩ := inN (N := 9) h5.1 (by have := h5.2; have e9 : (8 : Int32).toInt = 8 := rfl; omega)
  obtain ⟨κ, hκ, ek⟩ := kin hW hs
  have hwr := whyRead_n hW hs hκ ek hb0 x2
  have hlk := lacksM_n hW hB hs (x := x2) (y := Int32.toInt64 x2) (t64 x2)
  rw [h1, h2, h3, h4, hwr, hlk, reads_n hB hs hκ ek hb0]
  simp only [Option.bind_some, if_neg z10]
  have hri := rea_in (k := b_kinds) (z := b_sizes) s x2
  by_cases h0 : rea b_kinds b_sizes s x2 = 0
  · obtain ⟨h11, i, hi, _, rfl⟩ := rea_0 hW hs h0
    rw [ek, nI_toInt (by omega)] at h11
    have hr8 : (b == 8 || crb κ b) = crb κ b := by
      by_cases h8 : b = 8
      · subst h8
        have : crb κ 8 = true := by unfold crb; rw [if_pos rfl]; exact decide_eq_true (by omega)
        rw [this]; rfl
      · rw [show (b == 8) = false from beq_eq_false_iff_ne.mpr h8, Bool.false_or]
    rw [hr8]
    cases hcr : crb κ b
    · have hff : ¬ (false = true) := by decide
      have h40 : ¬ (4 : Int32) = 0 := by decide
      rw [h0]
      simp only [if_true, if_neg hff, if_neg h40, if_pos bI_f]
      exact ⟨_, _, rfl, rfl, rfl, hR0⟩
    · obtain ⟨nx', ct', hs', w', un', e1, e2, hB', hH', hI'⟩ := remember_s hW hB hH hI
      have ht : ¬ bI true = 0 := by decide
      obtain ⟨hok, _⟩ := wf2 hW hs hi
      obtain ⟨a, ha, ea⟩ := sortN hok
      rw [h0]
      simp only [if_true, if_neg ht, e1, e2, Option.bind_some, sortAt_n hs hi, numberAt_n hs hi, show Int32.toNatClampNeg 170 = 170 from rfl, show Int32.toNatClampNeg 171 = 171 from rfl]
      rw [sortRead_s hB' hs hi hb0]
      simp only [Option.bind_some]
      rw [numberRead_cg (w := w') hs hi (by rw [pk_uLn (by omega)]), numberRead_s hW hB' hs hi hb0 (by omega) ek hcr]
      simp only [Option.bind_some]
      by_cases h8 : b = 8
      · simp only [if_pos ((nI8 hb0).mpr h8), if_pos h8, ea, made_s]
        rw [ea] at hok
        rw [mk_ok ha hok]
        refine ⟨_, _, rfl, rfl, rfl, relD ⟨hW.1, hW.2.1, hW.2.2.1, hW.2.2.2.1, hW.2.2.2.2.1, hW.2.2.2.2.2.1, hok⟩ (setHand hB' (nI a) _) (fun j hj => ?_) hH' hI' hS hK⟩
        show vp_updL (vp_updL w' 170 _) 171 _ j = _
        rw [pk_uLn (by omega), pk_uLn (by omega)]
      · simp only [if_neg (fun q => h8 ((nI8 hb0).mp q)), if_neg h8, made_s]
        refine ⟨_, _, rfl, rfl, rfl, relD ⟨hW.1, hW.2.1, hW.2.2.1, hW.2.2.2.1, hW.2.2.2.2.1, hW.2.2.2.2.2.1, ok_mk _ (by omega) (fun q => by omega)⟩ (setHand hB' (nI b) (mk b _)) (fun j hj => ?_) hH' hI' hS hK⟩
        show vp_updL (vp_updL w' 170 _) 171 _ j = _
        rw [pk_uLn (by omega), pk_uLn (by omega)]
  · simp only [if_neg h0]
    exact ⟨_, _, rfl, rfl, rfl, hR0⟩
theorem sim_put {b_kinds : Nat → Int32} {b_sizes : Nat → Int32} {b_sorts : Nat → Int32} {b_numbers : Nat → Int64} {b_weights : Nat → Int32} {b_keySlots : Nat → Int32} {b_keyBys : Nat → Int32} {b_keyWays : Nat → Int32} {b_keyCount : Int32} {b_sheetSet : Int32} {b_handSort : Int32} {b_handNumber : Int64} {x_imageRandoms : Nat → Int32} {x_random : Int32} {h_next : Int32} {h_count : Int32} {k_places : Nat → Int32} {k_positions : Nat → Int32} {k_count : Int32} {w_w : Nat → Int64} {w_imageSeed : Nat → Int32} {w_isKept : Nat → Int32} {w_undos : Int32} {w_seed : Int32} {w_entries : Int32} {w_bookPlace : Nat → Int32} {w_bookPosition : Nat → Int32} {P_hs : HT} (hR : Rel (b_kinds, b_sizes, b_sorts, b_numbers, b_weights, b_keySlots, b_keyBys, b_keyWays, b_keyCount, b_sheetSet, b_handSort, b_handNumber) x_imageRandoms x_random h_next h_count P_hs k_places k_positions k_count w_w w_imageSeed w_isKept w_undos w_seed w_entries w_bookPlace w_bookPosition) (x1 : Int32) (x2 : Int32) (x3 : Int32) : ∃ (zc : Int32 × (Nat → Int32) × (Nat → Int64) × Int32 × Int32 × HT) (zm : Int32 × (Nat → Int64) × Int32), f_X5_put b_kinds b_sizes b_sorts b_numbers b_weights b_keySlots b_keyBys b_keyWays b_keyCount b_sheetSet b_handSort b_handNumber h_next h_count P_hs x1 x2 x3 = some zc ∧ f_X6_put w_w w_undos x1 x2 x3 = some zm ∧ zc.1 = zm.1 ∧ Rel (b_kinds, b_sizes, zc.2.1, zc.2.2.1, b_weights, b_keySlots, b_keyBys, b_keyWays, b_keyCount, b_sheetSet, b_handSort, b_handNumber) x_imageRandoms x_random zc.2.2.2.1 zc.2.2.2.2.1 zc.2.2.2.2.2 k_places k_positions k_count zm.2.1 w_imageSeed w_isKept zm.2.2 w_seed w_entries w_bookPlace w_bookPosition := by
  have hR0 := hR
  obtain ⟨hW, hB, hH, hI, hS, hK⟩ := hR
  unfold f_X5_put f_X6_put
  rcases slotC x1 with ⟨h1, h2⟩ | ⟨s, hs, rfl, h1, h2⟩
  · rw [h1, h2]; exact ⟨_, _, rfl, rfl, rfl, hW, hB, hH, hI, hS, hK⟩
  rcases inC x3 0 1 0 1 rfl rfl with ⟨h3, h4, _⟩ | ⟨h3, h4, h5⟩
  · rw [h1, h2, h3, h4]; exact ⟨_, _, rfl, rfl, rfl, hW, hB, hH, hI, hS, hK⟩
  obtain ⟨κ, hκ, ek⟩ := kin hW hs
  obtain ⟨a, ha, ea⟩ := sortN (wf7 hW)
  have hok : okV (nI a) b_handNumber := by rw [← ea]; exact wf7 hW
  have h170 : Int64.toInt32 (w_w 170) = nI a := by rw [(rb5 hB).2.1, t6432, ea]
  have h171 : w_w 171 = b_handNumber := (rb5 hB).2.2
  have hlk := lacksM_n hW hB hs (x := x2) (y := Int32.toInt64 x2) (t64 x2)
  have hwp0 := whyPut_n hW hs hκ ek ha x2 b_handNumber 0
  have hwp1 := whyPut_n hW hs hκ ek ha x2 b_handNumber 1
  rw [h1, h2, h3, h4]
  simp only [Option.bind_some, if_neg z10, show Int32.toNatClampNeg 170 = 170 from rfl, show Int32.toNatClampNeg 171 = 171 from rfl, h170, h171, ea, hlk, hwp0, hwp1, kindM_n hB hs, ek]
  have a8 : (nI a < (8 : Int32)) ↔ a < 8 := by rw [show (8 : Int32) = nI 8 from rfl]; exact nI_ltI (by omega) (by omega)
  have a7 : (nI a ≤ (7 : Int32)) ↔ a ≤ 7 := by rw [n7]; exact nI_leI (by omega) (by omega)
  have k7 : ((7 : Int32) < nI κ) ↔ 7 < κ := by rw [n7]; exact nI_ltI (by omega) (by omega)
  by_cases h0 : rea b_kinds b_sizes s x2 = 0
  · obtain ⟨h11, i, hi, _, rfl⟩ := rea_0 hW hs h0
    rw [ek, nI_toInt (by omega)] at h11
    have htk := takes_n hB hs (by omega) ek ha b_handNumber
    obtain ⟨nx', ct', hs', w', un', e1, e2, hB', hH', hI'⟩ := remember_s hW hB hH hI
    have h171' : w' 171 = b_handNumber := (rb5 hB').2.2
    have e40 : ¬ (4 : Int32) = 0 := by decide
    rw [ea] at e1
    have good : tk κ a (decide (4 ≤ b_handNumber.toInt)) = true → ∃ (t' : Nat → Int32) (n' w'' : Nat → Int64), f_X0_store b_kinds b_sorts b_numbers (nI s) (nI i) (nI a) b_handNumber = some (t', n') ∧ f_X6_sets w' (nI s) (nI i) (nI a) b_handNumber = some w'' ∧ Rel (b_kinds, b_sizes, t', n', b_weights, b_keySlots, b_keyBys, b_keyWays, b_keyCount, b_sheetSet, nI a, b_handNumber) x_imageRandoms x_random nx' ct' hs' k_places k_positions k_count w'' w_imageSeed w_isKept un' w_seed w_entries w_bookPlace w_bookPosition := by
      intro ht
      obtain ⟨a', v', g1, g2, g3, g4⟩ := store_s hW hB' hs hi (by omega) ek ha hok ht
      refine ⟨_, _, _, g1, g2, ?_⟩
      rw [← ea]
      refine relD (setCW hW hs hi g3 g4) (setCB hB' (by omega) a' v') (fun j hj => ?_) hH' hI' hS hK
      rw [pk_uLn (by omega), pk_uLn (by omega)]
    by_cases hx : x3 = 1
    · simp only [if_pos hx]
      by_cases ha8 : a < 8
      · simp only [if_pos (a8.mpr ha8), if_pos (a7.mpr (by omega)), if_pos h0, htk, Option.bind_some]
        by_cases hk7 : 7 < κ
        · have hw4 : whyP κ a b_handNumber 1 = 4 := by
            unfold whyP
            rw [if_neg]
            rintro ⟨_, q⟩
            rcases q with q | q
            · omega
            · exact z10 q
          rw [hw4]
          simp only [if_pos (k7.mpr hk7), if_neg e40]
          rw [← ea]
          exact ⟨_, _, rfl, rfl, rfl, hR0⟩
        · cases ht : tk κ a (decide (4 ≤ b_handNumber.toInt))
          · have hw4 : whyP κ a b_handNumber 1 = 4 := by
              unfold whyP
              rw [if_neg (fun q => by rw [ht] at q; exact Bool.noConfusion q.1)]
            rw [hw4]
            simp only [if_neg (fun q => hk7 (k7.mp q)), if_neg e40, if_pos bI_f]
            rw [← ea]
            exact ⟨_, _, rfl, rfl, rfl, hR0⟩
          · have hw0 : whyP κ a b_handNumber 1 = 0 := by
              unfold whyP
              rw [if_pos ⟨ht, Or.inl (by omega)⟩]
            have hbt : ¬ bI true = 0 := by decide
            obtain ⟨t', n', w'', g1, g2, g3⟩ := good ht
            rw [hw0]
            simp only [if_neg (fun q => hk7 (k7.mp q)), if_true, if_neg hbt, if_pos h0, e1, e2, g1, h171', g2, Option.bind_some]
            rw [ea] at *
            exact ⟨_, _, rfl, rfl, h0.symm, g3⟩
      · simp only [if_neg (fun q => ha8 (a8.mp q)), if_neg (fun q => ha8 (by have := a7.mp q; omega))]
        rw [← ea]
        exact ⟨_, _, rfl, rfl, rfl, hR0⟩
    · simp only [if_neg hx, if_pos h0, htk, Option.bind_some]
      cases ht : tk κ a (decide (4 ≤ b_handNumber.toInt))
      · have hw4 : whyP κ a b_handNumber 0 = 4 := by
          unfold whyP
          rw [if_neg (fun q => by rw [ht] at q; exact Bool.noConfusion q.1)]
        rw [hw4]
        simp only [if_neg e40, if_pos bI_f]
        rw [← ea]
        exact ⟨_, _, rfl, rfl, rfl, hR0⟩
      · have hw0 : whyP κ a b_handNumber 0 = 0 := by
          unfold whyP
          rw [if_pos ⟨ht, Or.inr rfl⟩]
        have hbt : ¬ bI true = 0 := by decide
        obtain ⟨t', n', w'', g1, g2, g3⟩ := good ht
        rw [hw0]
        simp only [if_true, if_neg hbt, if_pos h0, e1, e2, g1, h171', g2, Option.bind_some]
        rw [ea] at *
        exact ⟨_, _, rfl, rfl, h0.symm, g3⟩
  · have hx01 : x3 = 1 ∨ ¬ x3 = 1 := Classical.em _
    simp only [if_neg h0]
    by_cases hx : x3 = 1
    · simp only [if_pos hx]
      by_cases ha8 : a < 8
      · simp only [if_pos (a8.mpr ha8), if_pos (a7.mpr (by omega)), if_neg h0]
        rw [← ea]
        exact ⟨_, _, rfl, rfl, rfl, hR0⟩
      · simp only [if_neg (fun q => ha8 (a8.mp q)), if_neg (fun q => ha8 (by have := a7.mp q; omega))]
        rw [← ea]
        exact ⟨_, _, rfl, rfl, rfl, hR0⟩
    · simp only [if_neg hx, if_neg h0]
      rw [← ea]
      exact ⟨_, _, rfl, rfl, rfl, hR0⟩
