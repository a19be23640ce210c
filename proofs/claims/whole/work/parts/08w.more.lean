/-! would, below, lay -/
theorem upd_back {f : Nat → Int32} {c : Nat} {x : Int32} : upd (upd f c x) c (f c) = f := by
  funext j
  by_cases e : j = c
  · subst e; rw [pk_us]
  · rw [pk_un e, pk_un e]
theorem updL_back {f : Nat → Int64} {c : Nat} {x : Int64} : vp_updL (vp_updL f c x) c (f c) = f := by
  funext j
  by_cases e : j = c
  · subst e; rw [pk_uLs]
  · rw [pk_uLn e, pk_uLn e]
theorem upd2_back {f : Nat → Int64} {c d : Nat} (h : c ≠ d) {x y : Int64} : vp_updL (vp_updL (vp_updL (vp_updL f c x) d y) c (f c)) d (f d) = f := by
  funext j
  by_cases e : j = d
  · subst e; rw [pk_uLs]
  · by_cases e2 : j = c
    · subst e2; rw [pk_uLn e, pk_uLs]
    · rw [pk_uLn e, pk_uLn e2, pk_uLn e, pk_uLn e2]
theorem sim_would {b_kinds : Nat → Int32} {b_sizes : Nat → Int32} {b_sorts : Nat → Int32} {b_numbers : Nat → Int64} {b_weights : Nat → Int32} {b_keySlots : Nat → Int32} {b_keyBys : Nat → Int32} {b_keyWays : Nat → Int32} {b_keyCount : Int32} {b_sheetSet : Int32} {b_handSort : Int32} {b_handNumber : Int64} {x_imageRandoms : Nat → Int32} {x_random : Int32} {h_next : Int32} {h_count : Int32} {k_places : Nat → Int32} {k_positions : Nat → Int32} {k_count : Int32} {w_w : Nat → Int64} {w_imageSeed : Nat → Int32} {w_isKept : Nat → Int32} {w_undos : Int32} {w_seed : Int32} {w_entries : Int32} {w_bookPlace : Nat → Int32} {w_bookPosition : Nat → Int32} {P_hs : HT} (hR : Rel (b_kinds, b_sizes, b_sorts, b_numbers, b_weights, b_keySlots, b_keyBys, b_keyWays, b_keyCount, b_sheetSet, b_handSort, b_handNumber) x_imageRandoms x_random h_next h_count P_hs k_places k_positions k_count w_w w_imageSeed w_isKept w_undos w_seed w_entries w_bookPlace w_bookPosition) (r_lesser : Nat → Int32) (r_positions : Nat → Int32) (r_places : Nat → Int32) (r_length : Int32) (x1 : Int32) (x2 : Int32) : ∃ (zc : Int32 × (Nat → Int32) × (Nat → Int64) × (Nat → Int32) × (Nat → Int32) × (Nat → Int32) × Int32) (zm : Int32 × (Nat → Int64)), f_X5_would b_kinds b_sizes b_sorts b_numbers b_weights b_keySlots b_keyBys b_keyWays b_keyCount b_sheetSet b_handSort b_handNumber r_lesser r_positions r_places r_length x1 x2 = some zc ∧ f_X6_would w_w x1 x2 = some zm ∧ zc.1 = zm.1 ∧ Rel (b_kinds, b_sizes, zc.2.1, zc.2.2.1, b_weights, b_keySlots, b_keyBys, b_keyWays, b_keyCount, b_sheetSet, b_handSort, b_handNumber) x_imageRandoms x_random h_next h_count P_hs k_places k_positions k_count zm.2 w_imageSeed w_isKept w_undos w_seed w_entries w_bookPlace w_bookPosition := by
  have hR0 := hR
  obtain ⟨hW, hB, hH, hI, hS, hK⟩ := hR
  suffices h : ∃ (v : Int32) (l po pl : Nat → Int32) (ln : Int32), f_X5_would b_kinds b_sizes b_sorts b_numbers b_weights b_keySlots b_keyBys b_keyWays b_keyCount b_sheetSet b_handSort b_handNumber r_lesser r_positions r_places r_length x1 x2 = some (v, b_sorts, b_numbers, l, po, pl, ln) ∧ f_X6_would w_w x1 x2 = some (v, w_w) by
    obtain ⟨v, l, po, pl, ln, h1, h2⟩ := h
    exact ⟨_, _, h1, h2, rfl, hR0⟩
  unfold f_X5_would f_X6_would
  rcases slotC x1 with ⟨h1, h2⟩ | ⟨s, hs, rfl, h1, h2⟩
  · rw [h1, h2]; exact ⟨_, _, _, _, _, rfl, rfl⟩
  obtain ⟨κ, hκ, ek⟩ := kin hW hs
  obtain ⟨a, ha, ea⟩ := sortN (wf7 hW)
  have hok : okV (nI a) b_handNumber := by rw [← ea]; exact wf7 hW
  have h170 : Int64.toInt32 (w_w 170) = nI a := by rw [(rb5 hB).2.1, t6432, ea]
  have h171 : w_w 171 = b_handNumber := (rb5 hB).2.2
  have hlk := lacksM_n hW hB hs (x := x2) (y := Int32.toInt64 x2) (t64 x2)
  have hwp0 := whyPut_n hW hs hκ ek ha x2 b_handNumber 0
  rw [h1, h2, ea, hwp0]
  simp only [Option.bind_some, if_neg z10, show Int32.toNatClampNeg 170 = 170 from rfl, show Int32.toNatClampNeg 171 = 171 from rfl, h170, h171, hlk]
  have hisP : f_X6_isPlace w_w x2 = some 0 ∨ f_X6_isPlace w_w x2 = some 1 := by
    rcases ord_s hW hB with ⟨e1, e2⟩ | ⟨m, hm, hF, e1, e2, hC, hY⟩
    · exact Or.inl (plN e2 x2).2.1
    · rcases plC hm e2 x2 with ⟨_, q, _⟩ | ⟨p, hp, _, _, q, _⟩
      · exact Or.inl q
      · exact Or.inr q
  have e40 : ¬ (4 : Int32) = 0 := by decide
  have h00 : ¬ (0 : Int32) < 0 := by decide
  by_cases h0 : rea b_kinds b_sizes s x2 = 0
  · obtain ⟨h11, i, hi, _, rfl⟩ := rea_0 hW hs h0
    rw [ek, nI_toInt (by omega)] at h11
    have htk := takes_n hB hs (by omega) ek ha b_handNumber
    simp only [if_pos h0, h0, if_neg h00, htk, Option.bind_some]
    cases ht : tk κ a (decide (4 ≤ b_handNumber.toInt))
    · have hw4 : whyP κ a b_handNumber 0 = 4 := by
        unfold whyP
        rw [if_neg (fun q => by rw [ht] at q; exact Bool.noConfusion q.1)]
      rw [hw4]
      simp only [if_neg e40, if_pos bI_f]
      rcases hisP with q | q <;> rw [q]
      · exact ⟨_, _, _, _, _, rfl, rfl⟩
      · exact ⟨_, _, _, _, _, rfl, rfl⟩
    · have hw0 : whyP κ a b_handNumber 0 = 0 := by
        unfold whyP
        rw [if_pos ⟨ht, Or.inr rfl⟩]
      have hbt : ¬ bI true = 0 := by decide
      obtain ⟨a', v', g1, g2, g3, g4⟩ := store_s hW hB hs hi (by omega) ek ha hok ht
      have hW2 := setCW hW hs hi g3 g4
      have hB2 := setCB hB (show 12 * s + i < 72 by omega) a' v'
      have gs := setCell_n (t := upd b_sorts (12 * s + i) a') (n := vp_updL b_numbers (12 * s + i) v') hs hi (b_sorts (12 * s + i)) (b_numbers (12 * s + i))
      rw [upd_back, updL_back] at gs
      have e1' : (12 : Int32) + nI (12 * s + i) = nI (12 + (12 * s + i)) := by rw [n12, nI_add]
      have e2' : (84 : Int32) + nI (12 * s + i) = nI (84 + (12 * s + i)) := by rw [n84, nI_add]
      have i1 := ib_n (show 12 + (12 * s + i) < 3420 by omega) (show 3420 < 2 ^ 31 by omega)
      have i2 := ib_n (show 84 + (12 * s + i) < 3420 by omega) (show 3420 < 2 ^ 31 by omega)
      rw [hw0, sortAt_n hs hi, numberAt_n hs hi, g1, g2, atM_n]
      simp only [if_true, if_neg hbt, Option.bind_some, gs, e1', e2', i1, i2, nI_clamp (show 12 + (12 * s + i) < 2 ^ 31 by omega), nI_clamp (show 84 + (12 * s + i) < 2 ^ 31 by omega)]
      rw [upd2_back (by omega)]
      rcases ord_s hW hB with ⟨e1, e2⟩ | ⟨m, hm, hF, e1, e2, _, _⟩
      · obtain ⟨_, q1, q2⟩ := plN e2 (nI i)
        rw [sortP_no e1, q1]
        simp only [Option.bind_some, q2, if_true]
        exact ⟨_, _, _, _, _, rfl, rfl⟩
      · have hC2 : CPs (upd b_sorts (12 * s + i) a') b_weights b_keySlots b_keyBys b_keyWays (vp_updL b_numbers (12 * s + i) v') b_keyCount 15 _ m := fun x y hx hy => (comp_s hW2 hB2 hF 15 hx hy).1
        have hY2 : BY _ 15 _ m := fun x y hx hy => (comp_s hW2 hB2 hF 15 hx hy).2
        obtain ⟨le, po, pl, e3, hle, hpo, hpl⟩ := sortP_s (n := vp_updL b_numbers (12 * s + i) v') hm e1 hC2 r_lesser r_positions r_places r_length
        have e2p : f_X6_places (vp_updL (vp_updL w_w (12 + (12 * s + i)) (Int32.toInt64 a')) (84 + (12 * s + i)) v') = some (nI m) := by
          obtain ⟨L, p1, p2, _⟩ := places_s hW2 hB2
          rw [e1] at p1
          rw [p2, ← Option.some.inj p1]
        rw [e3, e2p]
        simp only [Option.bind_some]
        rcases plC hm e2 (nI i) with ⟨_, q1, q2⟩ | ⟨p, hp, q0, _, q1, q2⟩
        · rw [q1, q2]
          exact ⟨_, _, _, _, _, rfl, rfl⟩
        · rw [q0] at q1 q2 ⊢
          rw [q1, q2]
          simp only [Option.bind_some, if_neg z10, lesser_s hm hle hp, lessThan_s hm hY2 hp]
          exact ⟨_, _, _, _, _, rfl, rfl⟩
  · have hlt : 0 < rea b_kinds b_sizes s x2 := by
      rcases rea_in (k := b_kinds) (z := b_sizes) s x2 with e | e | e | e
      · exact absurd e h0
      · rw [e]; decide
      · rw [e]; decide
      · rw [e]; decide
    simp only [if_neg h0, if_pos hlt]
    rcases hisP with q | q <;> rw [q]
    · exact ⟨_, _, _, _, _, rfl, rfl⟩
    · exact ⟨_, _, _, _, _, rfl, rfl⟩
theorem sg1 {x y : Int} {b : Nat} (hb' : b < 2) : (sg x y + 1 = nI b) ↔ (sg x y = nI b - (1 : Int32)) := by
  have : b = 0 ∨ b = 1 := by omega
  rcases this with rfl | rfl <;> rcases sg_cases x y with ⟨h, e⟩ | ⟨h, e⟩ | ⟨h, e⟩ <;> rw [e] <;> decide
section BL1
variable {k z t g ks kb kw : Nat → Int32} {n : Nat → Int64} {kc ss hs : Int32} {hn : Int64} {w : Nat → Int64}
theorem belowL (hW : WFu (k, z, t, n, g, ks, kb, kw, kc, ss, hs, hn)) (hB : RBu (k, z, t, n, g, ks, kb, kw, kc, ss, hs, hn) w 0) {s b κ y : Nat} (hs' : s < 6) (hb0 : b < 9) (hκ : κ < 12) (ek : k s = nI κ) (hy : y < 2) (hr : 0 < (z s).toInt → crb κ b = true) : ∃ v, f_X0_cellsAgainstHand z t n g hs hn (nI s) (nI b) (nI y) = some v ∧ L_X6_below_158 w (nI s) (nI b) (nI y) (if b = 8 then hs else nI b) (if b = 8 then hn else mk b hn) 4000 0 0 = some v := by
  obtain ⟨ζ, hζ, ez⟩ := zin hW hs'
  have h11' : (k s).toInt ≤ 11 := by rw [ek, nI_toInt (by omega)]; omega
  have key : ∃ r p, L_X0_cellsAgainstHand_6 z t n g hs hn (nI s) (nI b) (nI y) 4000 0 (nI 0) = some r ∧ L_X6_below_158 w (nI s) (nI b) (nI y) (if b = 8 then hs else nI b) (if b = 8 then hn else mk b hn) 4000 0 (nI 0) = some p ∧ r = p := by
    refine lock (fun f q (a : Int32) => L_X0_cellsAgainstHand_6 z t n g hs hn (nI s) (nI b) (nI y) f a (nI q)) (fun f q (a : Int32) => L_X6_below_158 w (nI s) (nI b) (nI y) (if b = 8 then hs else nI b) (if b = 8 then hn else mk b hn) f a (nI q)) (fun _ a b => a = b) (fun r p => r = p) ζ ?_ ?_ ζ 0 4000 4000 (0 : Int32) (0 : Int32) (by omega) (by omega) (by omega) rfl
    · rintro f g' a _ rfl
      refine ⟨a, a, ?_, ?_, rfl⟩
      · show L_X0_cellsAgainstHand_6 z t n g hs hn (nI s) (nI b) (nI y) (f + 1) a (nI ζ) = some a
        rw [L_X0_cellsAgainstHand_6, sizeOf_n hs', ez, Option.bind_some, if_pos (nI_le (by omega) (by omega))]
      · show L_X6_below_158 w (nI s) (nI b) (nI y) _ _ (g' + 1) a (nI ζ) = some a
        rw [L_X6_below_158, manyM_n hB hs' h11', ez, Option.bind_some, if_pos (nI_le (by omega) (by omega))]
    · rintro f g' q a _ hq rfl
      refine Or.inl ?_
      show ∃ (s' t' : Int32), _ ∧ L_X0_cellsAgainstHand_6 z t n g hs hn (nI s) (nI b) (nI y) (f + 1) a (nI q) = L_X0_cellsAgainstHand_6 z t n g hs hn (nI s) (nI b) (nI y) f s' (nI (q + 1)) ∧ L_X6_below_158 w (nI s) (nI b) (nI y) (if b = 8 then hs else nI b) (if b = 8 then hn else mk b hn) (g' + 1) a (nI q) = L_X6_below_158 w (nI s) (nI b) (nI y) (if b = 8 then hs else nI b) (if b = 8 then hn else mk b hn) g' t' (nI (q + 1))
      have hge : ¬ nI ζ ≤ nI q := nI_ge hq (by omega)
      have hcr := hr (by rw [ez, nI_toInt (by omega)]; omega)
      obtain ⟨X, Y, c1, c2⟩ : ∃ X Y : Int, f_X0_compareWithHand t n g hs hn (nI s) (nI q) (nI b) = some (sg X Y) ∧ f_X6_against w (if b = 8 then t (12 * s + q) else nI b) (if b = 8 then n (12 * s + q) else mk b (n (12 * s + q))) (if b = 8 then hs else nI b) (if b = 8 then hn else mk b hn) = some (sg X Y) := by
        unfold f_X0_compareWithHand
        by_cases h8 : b = 8
        · refine ⟨kv g (t (12 * s + q)) (n (12 * s + q)), kv g hs hn, ?_, ?_⟩
          · rw [if_pos ((nI8 hb0).mpr h8), sortAt_n hs' (by omega), numberAt_n hs' (by omega), Option.bind_some, Option.bind_some, compV_s (fun t ht => wf3 hW ht) (wf2 hW hs' (by omega)).1 (wf7 hW)]
            rfl
          · rw [if_pos h8, if_pos h8, if_pos h8, if_pos h8, against_s (fun t ht => wf3 hW ht) (fun t ht => rb6 hB ht) (wf2 hW hs' (by omega)).1 (wf7 hW)]
        · refine ⟨(mk b (n (12 * s + q))).toInt, (mk b hn).toInt, ?_, ?_⟩
          · rw [if_neg (fun q => h8 ((nI8 hb0).mp q)), numberAt_n hs' (by omega), Option.bind_some, made_s, Option.bind_some, made_s, Option.bind_some, J13_s]
            rfl
          · rw [if_neg h8, if_neg h8, if_neg h8, if_neg h8, against_p (by omega)]
      rw [L_X0_cellsAgainstHand_6, L_X6_below_158, sizeOf_n hs', manyM_n hB hs' h11', ez, c1, sortRead_s hB hs' (by omega) hb0, numberRead_s hW hB hs' (by omega) hb0 hκ ek hcr]
      simp only [Option.bind_some, if_neg hge, c2, rel_s, nI_1, Int32.add_zero]
      by_cases hc : sg X Y + 1 = nI y
      · rw [if_pos hc, if_pos ((sg1 hy).mp hc)]
        exact ⟨_, _, rfl, rfl, rfl⟩
      · rw [if_neg hc, if_neg (fun e => hc ((sg1 hy).mpr e))]
        exact ⟨_, _, rfl, rfl, rfl⟩
  obtain ⟨r, p, e1, e2, rfl⟩ := key
  unfold f_X0_cellsAgainstHand
  rw [show L_X0_cellsAgainstHand_6 z t n g hs hn (nI s) (nI b) (nI y) 4000 0 0 = _ from e1, show L_X6_below_158 w (nI s) (nI b) (nI y) (if b = 8 then hs else nI b) (if b = 8 then hn else mk b hn) 4000 0 0 = _ from e2]
  exact ⟨r, rfl, rfl⟩
end BL1
theorem sim_below {b_kinds : Nat → Int32} {b_sizes : Nat → Int32} {b_sorts : Nat → Int32} {b_numbers : Nat → Int64} {b_weights : Nat → Int32} {b_keySlots : Nat → Int32} {b_keyBys : Nat → Int32} {b_keyWays : Nat → Int32} {b_keyCount : Int32} {b_sheetSet : Int32} {b_handSort : Int32} {b_handNumber : Int64} {x_imageRandoms : Nat → Int32} {x_random : Int32} {h_next : Int32} {h_count : Int32} {k_places : Nat → Int32} {k_positions : Nat → Int32} {k_count : Int32} {w_w : Nat → Int64} {w_imageSeed : Nat → Int32} {w_isKept : Nat → Int32} {w_undos : Int32} {w_seed : Int32} {w_entries : Int32} {w_bookPlace : Nat → Int32} {w_bookPosition : Nat → Int32} {P_hs : HT} (hR : Rel (b_kinds, b_sizes, b_sorts, b_numbers, b_weights, b_keySlots, b_keyBys, b_keyWays, b_keyCount, b_sheetSet, b_handSort, b_handNumber) x_imageRandoms x_random h_next h_count P_hs k_places k_positions k_count w_w w_imageSeed w_isKept w_undos w_seed w_entries w_bookPlace w_bookPosition) (x1 : Int32) (x2 : Int32) (x3 : Int32) : ∃ (zc : Int32) (zm : Int32), f_X5_below b_kinds b_sizes b_sorts b_numbers b_weights b_handSort b_handNumber x1 x2 x3 = some zc ∧ f_X6_below w_w x1 x2 x3 = some zm ∧ zc = zm ∧ Rel (b_kinds, b_sizes, b_sorts, b_numbers, b_weights, b_keySlots, b_keyBys, b_keyWays, b_keyCount, b_sheetSet, b_handSort, b_handNumber) x_imageRandoms x_random h_next h_count P_hs k_places k_positions k_count w_w w_imageSeed w_isKept w_undos w_seed w_entries w_bookPlace w_bookPosition := by
  have hR0 := hR
  obtain ⟨hW, hB, hH, hI, hS, hK⟩ := hR
  suffices h : ∃ v, f_X5_below b_kinds b_sizes b_sorts b_numbers b_weights b_handSort b_handNumber x1 x2 x3 = some v ∧ f_X6_below w_w x1 x2 x3 = some v by
    obtain ⟨v, h1, h2⟩ := h
    exact ⟨v, v, h1, h2, rfl, hR0⟩
  unfold f_X5_below f_X6_below
  rcases slotC x1 with ⟨h1, h2⟩ | ⟨s, hs, rfl, h1, h2⟩
  · rw [h1, h2]; exact ⟨_, rfl, rfl⟩
  rcases inC x2 0 8 0 8 rfl rfl with ⟨h3, h4, _⟩ | ⟨h3, h4, h5⟩
  · rw [h1, h2, h3, h4]; exact ⟨_, rfl, rfl⟩
  rcases inC x3 0 1 0 1 rfl rfl with ⟨h6, h7, _⟩ | ⟨h6, h7, h8⟩
  · rw [h1, h2, h3, h4, h6, h7]; exact ⟨_, rfl, rfl⟩
  obtain ⟨b, hb0, rfl⟩ := inN (N := 9) h5.1 (by have := h5.2; have e9 : (8 : Int32).toInt = 8 := rfl; omega)
  obtain ⟨y, hy, rfl⟩ := inN (N := 2) h8.1 (by have := h8.2; have e9 : (1 : Int32).toInt = 1 := rfl; omega)
  obtain ⟨κ, hκ, ek⟩ := kin hW hs
  obtain ⟨ζ, hζ, ez⟩ := zin hW hs
  obtain ⟨a, ha, ea⟩ := sortN (wf7 hW)
  have hok : okV (nI a) b_handNumber := by rw [← ea]; exact wf7 hW
  have h170 : Int64.toInt32 (w_w 170) = nI a := by rw [(rb5 hB).2.1, t6432, ea]
  have h171 : w_w 171 = b_handNumber := (rb5 hB).2.2
  have hyy : ∀ F : Int32 → Option Int32, (if nI y = 0 then (F 0).bind (fun z14 => some z14) else (F 1).bind (fun z13 => some z13)) = F (nI y) := by
    intro F
    have : y = 0 ∨ y = 1 := by omega
    rcases this with rfl | rfl
    · rw [if_pos (show nI 0 = 0 from rfl)]; show (F (nI 0)).bind _ = F (nI 0); cases F (nI 0) <;> rfl
    · rw [if_neg (by decide)]; show (F (nI 1)).bind _ = F (nI 1); cases F (nI 1) <;> rfl
  have hyc := hyy (fun v => f_X0_cellsAgainstHand b_sizes b_sorts b_numbers b_weights b_handSort b_handNumber (nI s) (nI b) v)
  rw [h1, h2, h3, h4, h6, h7, holds_n hs, isRowM_n hB hs, sizeOf_n hs, canRead_n hs hκ ek hb0, reads_n hB hs hκ ek hb0, ez]
  simp only [Option.bind_some, if_neg z10, show Int32.toNatClampNeg 170 = 170 from rfl, show Int32.toNatClampNeg 171 = 171 from rfl, h170, h171, hyc]
  have k11 : (b_kinds s).toInt = κ := by rw [ek, nI_toInt (by omega)]
  have a7 : ((7 : Int32) < nI a) ↔ 7 < a := by rw [n7]; exact nI_ltI (by omega) (by omega)
  have hz0 : (nI ζ ≤ (0 : Int32)) ↔ ζ = 0 := by
    rw [show (0 : Int32) = nI 0 from rfl, nI_leI (by omega) (by omega)]; omega
  have hbt : ¬ bI true = 0 := by decide
  by_cases h11 : (b_kinds s).toInt ≤ 11
  · have hr8 : (b == 8 || crb κ b) = crb κ b := by
      by_cases h8 : b = 8
      · subst h8
        have : crb κ 8 = true := by unfold crb; rw [if_pos rfl]; exact decide_eq_true (by omega)
        rw [this]; rfl
      · rw [show (b == 8) = false from beq_eq_false_iff_ne.mpr h8, Bool.false_or]
    have hbl : (0 < ζ → crb κ b = true) → ∃ v, f_X0_cellsAgainstHand b_sizes b_sorts b_numbers b_weights b_handSort b_handNumber (nI s) (nI b) (nI y) = some v ∧ L_X6_below_158 w_w (nI s) (nI b) (nI y) (if b = 8 then b_handSort else nI b) (if b = 8 then b_handNumber else mk b b_handNumber) 4000 0 0 = some v := fun q => belowL hW hB hs hb0 (by omega) ek hy (fun r => q (by rw [ez, nI_toInt (by omega)] at r; omega))
    rw [manyM_n hB hs h11, ez, hr8]
    simp only [if_pos h11, Option.bind_some, if_neg z10]
    by_cases h8 : b = 8
    · have c8 := (nI8 hb0).mpr h8
      simp only [if_pos c8]
      simp only [if_pos h8, ea] at hbl
      by_cases hz : ζ = 0
      · obtain ⟨v, g1, g2⟩ := hbl (fun q => by omega)
        simp only [if_pos (hz0.mpr hz), ea, g1, g2, Option.bind_some]
        exact ⟨_, rfl, rfl⟩
      · have hcr : crb κ b = true := by rw [h8]; unfold crb; rw [if_pos rfl]; exact decide_eq_true (by omega)
        obtain ⟨v, g1, g2⟩ := hbl (fun q => hcr)
        simp only [if_neg (fun q => hz (hz0.mp q)), hcr, if_neg hbt, ea, g1, g2, Option.bind_some]
        exact ⟨_, rfl, rfl⟩
    · have c8 : ¬ nI b = 8 := fun q => h8 ((nI8 hb0).mp q)
      simp only [if_neg c8]
      simp only [if_neg h8, ea] at hbl
      rw [ea, fits_n a ha b (by omega), goes_n a ha b (by omega)]
      simp only [Option.bind_some]
      by_cases ha7 : 7 < a
      · simp only [if_pos (a7.mpr ha7), show decide (a ≤ 7) = false from decide_eq_false (by omega), Bool.false_and, if_pos bI_f]
        exact ⟨_, rfl, rfl⟩
      · simp only [if_neg (fun q => ha7 (a7.mp q)), show decide (a ≤ 7) = true from decide_eq_true (by omega), Bool.true_and]
        cases hg : gz a b
        · simp only [if_pos bI_f]
          exact ⟨_, rfl, rfl⟩
        · rw [gone_s (show a < 8 by omega) (show b < 8 by omega) hg hok]
          simp only [if_neg hbt, Option.bind_some]
          by_cases hz : ζ = 0
          · obtain ⟨v, g1, g2⟩ := hbl (fun q => by omega)
            simp only [if_pos (hz0.mpr hz), g1, g2, Option.bind_some]
            exact ⟨_, rfl, rfl⟩
          · simp only [if_neg (fun q => hz (hz0.mp q))]
            cases hcr : crb κ b
            · simp only [if_pos bI_f]
              exact ⟨_, rfl, rfl⟩
            · obtain ⟨v, g1, g2⟩ := hbl (fun q => hcr)
              simp only [if_neg hbt, g1, g2, Option.bind_some]
              exact ⟨_, rfl, rfl⟩
  · simp only [if_neg h11]
    by_cases h8 : b = 8
    · have c8 := (nI8 hb0).mpr h8
      simp only [if_pos c8]
      exact ⟨_, rfl, rfl⟩
    · have c8 : ¬ nI b = 8 := fun q => h8 ((nI8 hb0).mp q)
      rw [goes_n a ha b (by omega)]
      simp only [if_neg c8, Option.bind_some]
      by_cases ha7 : 7 < a
      · simp only [if_pos (a7.mpr ha7)]
        exact ⟨_, rfl, rfl⟩
      · simp only [if_neg (fun q => ha7 (a7.mp q))]
        cases hg : gz a b
        · simp only [if_pos bI_f]
          exact ⟨_, rfl, rfl⟩
        · simp only [if_neg hbt]
          exact ⟨_, rfl, rfl⟩
