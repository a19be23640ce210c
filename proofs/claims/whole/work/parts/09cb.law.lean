/-! the law: calls 4 to 7 -/
set_option maxHeartbeats 4000000 in
set_option maxRecDepth 100000 in
theorem lc_tag {p : Program} {e : Env} {s : State} {m : MethodId} {below : List Frame} {meth : Method} {c : Code} (l : Launch) {sb L : Nat} {xs : Nat → Int32} (hx : p.tables.exec = Jvm.exec) (hb : c.code = code) (C0 : CallFix p m c code 4 s #[Value.ref sb] wsL_law RL) (hX : va_X sb L xs s s.heap) (hbl : sb < s.heap.size) (D : va_G) (cI cJ cZ cQ : ClassId) (hE : Ev D cI cJ cZ cQ s.heap.size s) (x b h k r q v w : Nat → Nat) (x3 : Int32) (hin1 : vp_in (x3 + 1) L) (hin2 : vp_in (x3 + 2) L) (hin3 : vp_in (x3 + 3) L) (hin4 : vp_in (x3 + 4) L) (hin5 : vp_in (x3 + 5) L) (kc ks : Nat) (hkc : kc + 117 ≤ 600000) (hks : ks + 2444 ≤ 7302250) (H : Heap) (locs : List Loc) (ls : Array Slot) (hSt : LSt D cI cJ cZ cQ s sb x b h k r q v w x3 H locs ls)
    (K : ∀ (H : Heap) (locs : List Loc) (ls : Array Slot), LSt D cI cJ cZ cQ s sb x b h k r q v w x3 H locs ls → W p l e room_1 s m #[Value.ref sb] below meth c H locs (kc + 117) (ks + 2444) (lw_Z below #[Value.ref sb] s) (F0 m 1184 ls [])) : W p l e room_1 s m #[Value.ref sb] below meth c H locs kc ks (lw_Z below #[Value.ref sb] s) (F0 m 300 ls []) := by
  unfold LSt at hSt
  obtain ⟨x_random, b_keyCount, b_sheetSet, b_handSort, b_handNumber, b_kinds, b_sizes, b_sorts, b_numbers, b_weights, b_keySlots, b_keyBys, b_keyWays, h_next, h_count, k_count, k_places, k_positions, r_length, r_lesser, r_positions, r_places, r_longest, q_length, q_lesser, q_positions, q_places, q_longest, v_count, v_from, v_oldSorts, v_oldNumbers, x_imageRandoms, w_undos, w_seed, w_entries, w_w, w_imageSeed, w_isKept, w_bookPlace, w_bookPosition, w_scratch, w_from, w_heldSort, w_heldNumber, P_hs, pl, hpl, hR, hP, hD, hS, hl⟩ := hSt
  obtain ⟨-, -, hml, hown, hts⟩ := id C0
  have hAb : ∀ q, (fun q : Nat => s.heap.size ≤ q) q → s.heap.size ≤ q := fun _ h => h
  have hA : ∀ q : Nat, s.heap.size ≤ q → (fun q : Nat => s.heap.size ≤ q) q := fun _ h => h
  have hbA : ¬ (fun q : Nat => s.heap.size ≤ q) sb := Nat.not_le.mpr hbl
  refine lv_aload_n hx hb dL_law_300 rfl (lv_at hl 2 rfl) ?_
  refine lv_aload_n hx hb dL_law_301 rfl (lv_at hl 3 rfl) ?_
  refine lv_iload_n hx hb dL_law_302 rfl (lv_at hl 0 rfl) ?_
  refine lv_iconst (v := 1) hx hb dL_law_303 (by decide) ?_
  refine lv_iadd hx hb dL_law_304 ?_
  refine va_sld hx hb hX hbl hbA hS hin1 dL_law_305 ?_
  refine lv_aload_n hx hb dL_law_306 rfl (lv_at hl 3 rfl) ?_
  refine lv_iload_n hx hb dL_law_307 rfl (lv_at hl 0 rfl) ?_
  refine lv_iconst (v := 2) hx hb dL_law_308 (by decide) ?_
  refine lv_iadd hx hb dL_law_309 ?_
  refine va_sld hx hb hX hbl hbA hS hin2 dL_law_310 ?_
  obtain ⟨zc, zm, hzc, hzm, heq, hR⟩ := sim_tag hR (xs (x3 + 1).toNatClampNeg) (xs (x3 + 2).toNatClampNeg)
  refine kI (runV (As := [.int (xs (x3 + 1).toNatClampNeg), .int (xs (x3 + 2).toNatClampNeg)]) (rest := []) C0 hE hAb hP (hD.addr rfl) hS [0, 1, 3, 4, 5, 6] (wc := [oX5 x b h k r q v x_random, oX0 b b_keyCount b_sheetSet b_handSort b_handNumber, aI cI (b 2) 6 b_sizes, aI cI (b 3) 72 b_sorts, aJ cJ (b 4) 72 b_numbers, aI cI (b 5) 8 b_weights]) (by decide) rfl 0 rfl rfl (c_X5_tag l D cI cJ cZ cQ s.heap.size H.size x b h k r q v x_random b_keyCount b_sheetSet b_handSort b_handNumber b_sizes b_sorts b_numbers b_weights (xs (x3 + 1).toNatClampNeg) (xs (x3 + 2).toNatClampNeg) zc hzc) (cwV 2 hts gL_law_X5_tag rfl rfl rfl (by decide +kernel) ⟨Nat.le_of_ble_eq_true rfl, Nat.le_of_ble_eq_true rfl⟩) rfl hl.1 rfl (Nat.le_of_ble_eq_true rfl) dL_law_311 ⟨(show kc + 0 ≤ 600000 by omega), (show ks + 0 ≤ 7302250 by omega)⟩) hS hP (fun H locs hP hS => ?_)
  refine lv_aload_n hx hb dL_law_314 rfl (lv_at hl 1 rfl) ?_
  refine lv_aload_n hx hb dL_law_315 rfl (lv_at hl 3 rfl) ?_
  refine lv_iload_n hx hb dL_law_316 rfl (lv_at hl 0 rfl) ?_
  refine lv_iconst (v := 1) hx hb dL_law_317 (by decide) ?_
  refine lv_iadd hx hb dL_law_318 ?_
  refine va_sld hx hb hX hbl hbA hS hin1 dL_law_319 ?_
  refine lv_aload_n hx hb dL_law_320 rfl (lv_at hl 3 rfl) ?_
  refine lv_iload_n hx hb dL_law_321 rfl (lv_at hl 0 rfl) ?_
  refine lv_iconst (v := 2) hx hb dL_law_322 (by decide) ?_
  refine lv_iadd hx hb dL_law_323 ?_
  refine va_sld hx hb hX hbl hbA hS hin2 dL_law_324 ?_
  refine kI (runV (As := [.int (xs (x3 + 1).toNatClampNeg), .int (xs (x3 + 2).toNatClampNeg)]) (rest := [.int zc]) C0 hE hAb hP (hD.addr rfl) hS [31, 32] (wc := [oX6 w w_undos w_seed w_entries, aJ cJ (w 1) 3420 w_w]) (by decide) rfl 31 rfl rfl (c_X6_tag l D cI cJ cZ cQ s.heap.size H.size w w_undos w_seed w_entries w_w (xs (x3 + 1).toNatClampNeg) (xs (x3 + 2).toNatClampNeg) zm hzm) (cwV 2 hts gL_law_X6_tag rfl rfl rfl (by decide +kernel) ⟨Nat.le_of_ble_eq_true rfl, Nat.le_of_ble_eq_true rfl⟩) rfl hl.1 rfl (Nat.le_of_ble_eq_true rfl) dL_law_325 ⟨(show (kc + 0) + 0 ≤ 600000 by omega), (show (ks + 0) + 0 ≤ 7302250 by omega)⟩) hS hP (fun H locs hP hS => ?_)
  refine lv_icmp_eq (tgt := 1184) hx hb dL_law_328 (by decide) (fun _ => ?_) (fun cn => absurd heq cn)
  refine W.widen (k := kc + 117) (n := ks + 2444) (by omega) (by omega) ?_
  exact K H locs ls (by unfold LSt; exact ⟨x_random, b_keyCount, b_sheetSet, b_handSort, b_handNumber, b_kinds, b_sizes, b_sorts, b_numbers, b_weights, b_keySlots, b_keyBys, b_keyWays, h_next, h_count, k_count, k_places, k_positions, r_length, r_lesser, r_positions, r_places, r_longest, q_length, q_lesser, q_positions, q_places, q_longest, v_count, v_from, v_oldSorts, v_oldNumbers, x_imageRandoms, w_undos, w_seed, w_entries, w_w, w_imageSeed, w_isKept, w_bookPlace, w_bookPosition, w_scratch, w_from, w_heldSort, w_heldNumber, P_hs, pl, hpl, hR, hP, hD.addr rfl, hS, hl⟩)
set_option maxHeartbeats 4000000 in
set_option maxRecDepth 100000 in
theorem lc_keyAt {p : Program} {e : Env} {s : State} {m : MethodId} {below : List Frame} {meth : Method} {c : Code} (l : Launch) {sb L : Nat} {xs : Nat → Int32} (hx : p.tables.exec = Jvm.exec) (hb : c.code = code) (C0 : CallFix p m c code 4 s #[Value.ref sb] wsL_law RL) (hX : va_X sb L xs s s.heap) (hbl : sb < s.heap.size) (D : va_G) (cI cJ cZ cQ : ClassId) (hE : Ev D cI cJ cZ cQ s.heap.size s) (x b h k r q v w : Nat → Nat) (x3 : Int32) (hin1 : vp_in (x3 + 1) L) (hin2 : vp_in (x3 + 2) L) (hin3 : vp_in (x3 + 3) L) (hin4 : vp_in (x3 + 4) L) (hin5 : vp_in (x3 + 5) L) (kc ks : Nat) (hkc : kc + 117 ≤ 600000) (hks : ks + 2444 ≤ 7302250) (H : Heap) (locs : List Loc) (ls : Array Slot) (hSt : LSt D cI cJ cZ cQ s sb x b h k r q v w x3 H locs ls)
    (K : ∀ (H : Heap) (locs : List Loc) (ls : Array Slot), LSt D cI cJ cZ cQ s sb x b h k r q v w x3 H locs ls → W p l e room_1 s m #[Value.ref sb] below meth c H locs (kc + 117) (ks + 2444) (lw_Z below #[Value.ref sb] s) (F0 m 1184 ls [])) : W p l e room_1 s m #[Value.ref sb] below meth c H locs kc ks (lw_Z below #[Value.ref sb] s) (F0 m 333 ls []) := by
  unfold LSt at hSt
  obtain ⟨x_random, b_keyCount, b_sheetSet, b_handSort, b_handNumber, b_kinds, b_sizes, b_sorts, b_numbers, b_weights, b_keySlots, b_keyBys, b_keyWays, h_next, h_count, k_count, k_places, k_positions, r_length, r_lesser, r_positions, r_places, r_longest, q_length, q_lesser, q_positions, q_places, q_longest, v_count, v_from, v_oldSorts, v_oldNumbers, x_imageRandoms, w_undos, w_seed, w_entries, w_w, w_imageSeed, w_isKept, w_bookPlace, w_bookPosition, w_scratch, w_from, w_heldSort, w_heldNumber, P_hs, pl, hpl, hR, hP, hD, hS, hl⟩ := hSt
  obtain ⟨-, -, hml, hown, hts⟩ := id C0
  have hAb : ∀ q, (fun q : Nat => s.heap.size ≤ q) q → s.heap.size ≤ q := fun _ h => h
  have hA : ∀ q : Nat, s.heap.size ≤ q → (fun q : Nat => s.heap.size ≤ q) q := fun _ h => h
  have hbA : ¬ (fun q : Nat => s.heap.size ≤ q) sb := Nat.not_le.mpr hbl
  refine lv_aload_n hx hb dL_law_333 rfl (lv_at hl 2 rfl) ?_
  refine lv_aload_n hx hb dL_law_334 rfl (lv_at hl 3 rfl) ?_
  refine lv_iload_n hx hb dL_law_335 rfl (lv_at hl 0 rfl) ?_
  refine lv_iconst (v := 1) hx hb dL_law_336 (by decide) ?_
  refine lv_iadd hx hb dL_law_337 ?_
  refine va_sld hx hb hX hbl hbA hS hin1 dL_law_338 ?_
  refine lv_aload_n hx hb dL_law_339 rfl (lv_at hl 3 rfl) ?_
  refine lv_iload_n hx hb dL_law_340 rfl (lv_at hl 0 rfl) ?_
  refine lv_iconst (v := 2) hx hb dL_law_341 (by decide) ?_
  refine lv_iadd hx hb dL_law_342 ?_
  refine va_sld hx hb hX hbl hbA hS hin2 dL_law_343 ?_
  obtain ⟨zc, zm, hzc, hzm, heq, hR⟩ := sim_keyAt hR (xs (x3 + 1).toNatClampNeg) (xs (x3 + 2).toNatClampNeg)
  refine kI (runV (As := [.int (xs (x3 + 1).toNatClampNeg), .int (xs (x3 + 2).toNatClampNeg)]) (rest := []) C0 hE hAb hP (hD.addr rfl) hS [0, 1, 7, 8, 9] (wc := [oX5 x b h k r q v x_random, oX0 b b_keyCount b_sheetSet b_handSort b_handNumber, aI cI (b 6) 4 b_keySlots, aI cI (b 7) 4 b_keyBys, aI cI (b 8) 4 b_keyWays]) (by decide) rfl 0 rfl rfl (c_X5_keyAt l D cI cJ cZ cQ s.heap.size H.size x b h k r q v x_random b_keyCount b_sheetSet b_handSort b_handNumber b_keySlots b_keyBys b_keyWays (xs (x3 + 1).toNatClampNeg) (xs (x3 + 2).toNatClampNeg) zc hzc) (cwV 2 hts gL_law_X5_keyAt rfl rfl rfl (by decide +kernel) ⟨Nat.le_of_ble_eq_true rfl, Nat.le_of_ble_eq_true rfl⟩) rfl hl.1 rfl (Nat.le_of_ble_eq_true rfl) dL_law_344 ⟨(show kc + 0 ≤ 600000 by omega), (show ks + 0 ≤ 7302250 by omega)⟩) hS hP (fun H locs hP hS => ?_)
  refine lv_aload_n hx hb dL_law_347 rfl (lv_at hl 1 rfl) ?_
  refine lv_aload_n hx hb dL_law_348 rfl (lv_at hl 3 rfl) ?_
  refine lv_iload_n hx hb dL_law_349 rfl (lv_at hl 0 rfl) ?_
  refine lv_iconst (v := 1) hx hb dL_law_350 (by decide) ?_
  refine lv_iadd hx hb dL_law_351 ?_
  refine va_sld hx hb hX hbl hbA hS hin1 dL_law_352 ?_
  refine lv_aload_n hx hb dL_law_353 rfl (lv_at hl 3 rfl) ?_
  refine lv_iload_n hx hb dL_law_354 rfl (lv_at hl 0 rfl) ?_
  refine lv_iconst (v := 2) hx hb dL_law_355 (by decide) ?_
  refine lv_iadd hx hb dL_law_356 ?_
  refine va_sld hx hb hX hbl hbA hS hin2 dL_law_357 ?_
  refine kI (runV (As := [.int (xs (x3 + 1).toNatClampNeg), .int (xs (x3 + 2).toNatClampNeg)]) (rest := [.int zc]) C0 hE hAb hP (hD.addr rfl) hS [31, 32] (wc := [oX6 w w_undos w_seed w_entries, aJ cJ (w 1) 3420 w_w]) (by decide) rfl 31 rfl rfl (c_X6_keyAt l D cI cJ cZ cQ s.heap.size H.size w w_undos w_seed w_entries w_w (xs (x3 + 1).toNatClampNeg) (xs (x3 + 2).toNatClampNeg) zm hzm) (cwV 2 hts gL_law_X6_keyAt rfl rfl rfl (by decide +kernel) ⟨Nat.le_of_ble_eq_true rfl, Nat.le_of_ble_eq_true rfl⟩) rfl hl.1 rfl (Nat.le_of_ble_eq_true rfl) dL_law_358 ⟨(show (kc + 0) + 0 ≤ 600000 by omega), (show (ks + 0) + 0 ≤ 7302250 by omega)⟩) hS hP (fun H locs hP hS => ?_)
  refine lv_icmp_eq (tgt := 1184) hx hb dL_law_361 (by decide) (fun _ => ?_) (fun cn => absurd heq cn)
  refine W.widen (k := kc + 117) (n := ks + 2444) (by omega) (by omega) ?_
  exact K H locs ls (by unfold LSt; exact ⟨x_random, b_keyCount, b_sheetSet, b_handSort, b_handNumber, b_kinds, b_sizes, b_sorts, b_numbers, b_weights, b_keySlots, b_keyBys, b_keyWays, h_next, h_count, k_count, k_places, k_positions, r_length, r_lesser, r_positions, r_places, r_longest, q_length, q_lesser, q_positions, q_places, q_longest, v_count, v_from, v_oldSorts, v_oldNumbers, x_imageRandoms, w_undos, w_seed, w_entries, w_w, w_imageSeed, w_isKept, w_bookPlace, w_bookPosition, w_scratch, w_from, w_heldSort, w_heldNumber, P_hs, pl, hpl, hR, hP, hD.addr rfl, hS, hl⟩)
set_option maxHeartbeats 4000000 in
set_option maxRecDepth 100000 in
theorem lc_rank {p : Program} {e : Env} {s : State} {m : MethodId} {below : List Frame} {meth : Method} {c : Code} (l : Launch) {sb L : Nat} {xs : Nat → Int32} (hx : p.tables.exec = Jvm.exec) (hb : c.code = code) (C0 : CallFix p m c code 4 s #[Value.ref sb] wsL_law RL) (hX : va_X sb L xs s s.heap) (hbl : sb < s.heap.size) (D : va_G) (cI cJ cZ cQ : ClassId) (hE : Ev D cI cJ cZ cQ s.heap.size s) (x b h k r q v w : Nat → Nat) (x3 : Int32) (hin1 : vp_in (x3 + 1) L) (hin2 : vp_in (x3 + 2) L) (hin3 : vp_in (x3 + 3) L) (hin4 : vp_in (x3 + 4) L) (hin5 : vp_in (x3 + 5) L) (kc ks : Nat) (hkc : kc + 117 ≤ 600000) (hks : ks + 2444 ≤ 7302250) (H : Heap) (locs : List Loc) (ls : Array Slot) (hSt : LSt D cI cJ cZ cQ s sb x b h k r q v w x3 H locs ls)
    (K : ∀ (H : Heap) (locs : List Loc) (ls : Array Slot), LSt D cI cJ cZ cQ s sb x b h k r q v w x3 H locs ls → W p l e room_1 s m #[Value.ref sb] below meth c H locs (kc + 117) (ks + 2444) (lw_Z below #[Value.ref sb] s) (F0 m 1184 ls [])) : W p l e room_1 s m #[Value.ref sb] below meth c H locs kc ks (lw_Z below #[Value.ref sb] s) (F0 m 366 ls []) := by
  unfold LSt at hSt
  obtain ⟨x_random, b_keyCount, b_sheetSet, b_handSort, b_handNumber, b_kinds, b_sizes, b_sorts, b_numbers, b_weights, b_keySlots, b_keyBys, b_keyWays, h_next, h_count, k_count, k_places, k_positions, r_length, r_lesser, r_positions, r_places, r_longest, q_length, q_lesser, q_positions, q_places, q_longest, v_count, v_from, v_oldSorts, v_oldNumbers, x_imageRandoms, w_undos, w_seed, w_entries, w_w, w_imageSeed, w_isKept, w_bookPlace, w_bookPosition, w_scratch, w_from, w_heldSort, w_heldNumber, P_hs, pl, hpl, hR, hP, hD, hS, hl⟩ := hSt
  obtain ⟨-, -, hml, hown, hts⟩ := id C0
  have hAb : ∀ q, (fun q : Nat => s.heap.size ≤ q) q → s.heap.size ≤ q := fun _ h => h
  have hA : ∀ q : Nat, s.heap.size ≤ q → (fun q : Nat => s.heap.size ≤ q) q := fun _ h => h
  have hbA : ¬ (fun q : Nat => s.heap.size ≤ q) sb := Nat.not_le.mpr hbl
  refine lv_aload_n hx hb dL_law_366 rfl (lv_at hl 2 rfl) ?_
  refine lv_aload_n hx hb dL_law_367 rfl (lv_at hl 3 rfl) ?_
  refine lv_iload_n hx hb dL_law_368 rfl (lv_at hl 0 rfl) ?_
  refine lv_iconst (v := 1) hx hb dL_law_369 (by decide) ?_
  refine lv_iadd hx hb dL_law_370 ?_
  refine va_sld hx hb hX hbl hbA hS hin1 dL_law_371 ?_
  refine lv_aload_n hx hb dL_law_372 rfl (lv_at hl 3 rfl) ?_
  refine lv_iload_n hx hb dL_law_373 rfl (lv_at hl 0 rfl) ?_
  refine lv_iconst (v := 2) hx hb dL_law_374 (by decide) ?_
  refine lv_iadd hx hb dL_law_375 ?_
  refine va_sld hx hb hX hbl hbA hS hin2 dL_law_376 ?_
  obtain ⟨zc, zm, hzc, hzm, heq, hR⟩ := sim_rank hR r_lesser r_positions r_places r_length (xs (x3 + 1).toNatClampNeg) (xs (x3 + 2).toNatClampNeg)
  refine kwI (runV (As := [.int (xs (x3 + 1).toNatClampNeg), .int (xs (x3 + 2).toNatClampNeg)]) (rest := []) C0 hE hAb hP (hD.addr rfl) hS [0, 1, 2, 3, 4, 5, 6, 7, 8, 9, 15, 16, 17, 18] (wc := [oX5 x b h k r q v x_random, oX0 b b_keyCount b_sheetSet b_handSort b_handNumber, aI cI (b 1) 6 b_kinds, aI cI (b 2) 6 b_sizes, aI cI (b 3) 72 b_sorts, aJ cJ (b 4) 72 b_numbers, aI cI (b 5) 8 b_weights, aI cI (b 6) 4 b_keySlots, aI cI (b 7) 4 b_keyBys, aI cI (b 8) 4 b_keyWays, oX4 r r_length, aI cI (r 1) 12 r_lesser, aI cI (r 2) 12 r_positions, aI cI (r 3) 12 r_places]) (by decide) rfl 0 rfl rfl (c_X5_rank l D cI cJ cZ cQ s.heap.size H.size x b h k r q v x_random b_keyCount b_sheetSet b_handSort b_handNumber b_kinds b_sizes b_sorts b_numbers b_weights b_keySlots b_keyBys b_keyWays r_length r_lesser r_positions r_places (xs (x3 + 1).toNatClampNeg) (xs (x3 + 2).toNatClampNeg) zc hzc) (cwV 2 hts gL_law_X5_rank rfl rfl rfl (by decide +kernel) ⟨Nat.le_of_ble_eq_true rfl, Nat.le_of_ble_eq_true rfl⟩) rfl hl.1 rfl (Nat.le_of_ble_eq_true rfl) dL_law_377 ⟨(show kc + 0 ≤ 600000 by omega), (show ks + 0 ≤ 7302250 by omega)⟩) hS hP (hD.addr rfl) hA [0, 1, 2, 3, 4, 5, 6, 7, 8, 9, 15, 16, 17, 18] rfl rfl (ws' := ([oX5 x b h k r q v x_random, oX0 b b_keyCount b_sheetSet b_handSort b_handNumber, aI cI (b 1) 6 b_kinds, aI cI (b 2) 6 b_sizes, aI cI (b 3) 72 b_sorts, aJ cJ (b 4) 72 b_numbers, aI cI (b 5) 8 b_weights, aI cI (b 6) 4 b_keySlots, aI cI (b 7) 4 b_keyBys, aI cI (b 8) 4 b_keyWays, oX2 h h_next h_count, aQ cQ (h 1) 16 (hB pl), oX1 k k_count, aI cI (k 1) 20 k_places, aI cI (k 2) 20 k_positions, oX4 r zc.2.2.2.2, aI cI (r 1) 12 zc.2.1, aI cI (r 2) 12 zc.2.2.1, aI cI (r 3) 12 zc.2.2.2.1, aI cI (r 4) 12 r_longest, oX4 q q_length, aI cI (q 1) 12 q_lesser, aI cI (q 2) 12 q_positions, aI cI (q 3) 12 q_places, aI cI (q 4) 12 q_longest, oX3 v v_count, aI cI (v 1) 12 v_from, aI cI (v 2) 12 v_oldSorts, aJ cJ (v 3) 12 v_oldNumbers, aQ cQ (x 1) 2 (iB pl), aI cI (x 2) 2 x_imageRandoms, oX6 w w_undos w_seed w_entries, aJ cJ (w 1) 3420 w_w, aI cI (w 2) 2 w_imageSeed, aI cZ (w 3) 2 w_isKept, aI cI (w 4) 20 w_bookPlace, aI cI (w 5) 20 w_bookPosition, aI cI (w 6) 12 w_scratch, aI cI (w 7) 12 w_from, aJ cJ (w 8) 12 w_heldSort, aJ cJ (w 9) 12 w_heldNumber] ++ plW cI cJ pl 18)) (setAll_x (n := 41) (isR := [10, 11, 12, 13, 14, 19, 20, 21, 22, 23, 24, 25, 26, 27, 28, 29, 30, 31, 32, 33, 34, 35, 36, 37, 38, 39, 40]) (wr := [oX2 h h_next h_count, aQ cQ (h 1) 16 (hB pl), oX1 k k_count, aI cI (k 1) 20 k_places, aI cI (k 2) 20 k_positions, aI cI (r 4) 12 r_longest, oX4 q q_length, aI cI (q 1) 12 q_lesser, aI cI (q 2) 12 q_positions, aI cI (q 3) 12 q_places, aI cI (q 4) 12 q_longest, oX3 v v_count, aI cI (v 1) 12 v_from, aI cI (v 2) 12 v_oldSorts, aJ cJ (v 3) 12 v_oldNumbers, aQ cQ (x 1) 2 (iB pl), aI cI (x 2) 2 x_imageRandoms, oX6 w w_undos w_seed w_entries, aJ cJ (w 1) 3420 w_w, aI cI (w 2) 2 w_imageSeed, aI cZ (w 3) 2 w_isKept, aI cI (w 4) 20 w_bookPlace, aI cI (w 5) 20 w_bookPosition, aI cI (w 6) 12 w_scratch, aI cI (w 7) 12 w_from, aJ cJ (w 8) 12 w_heldSort, aJ cJ (w 9) 12 w_heldNumber]) rfl rfl rfl rfl rfl (by decide)) rfl (fun H locs hP hS => ?_)
  refine lv_aload_n hx hb dL_law_380 rfl (lv_at hl 1 rfl) ?_
  refine lv_aload_n hx hb dL_law_381 rfl (lv_at hl 3 rfl) ?_
  refine lv_iload_n hx hb dL_law_382 rfl (lv_at hl 0 rfl) ?_
  refine lv_iconst (v := 1) hx hb dL_law_383 (by decide) ?_
  refine lv_iadd hx hb dL_law_384 ?_
  refine va_sld hx hb hX hbl hbA hS hin1 dL_law_385 ?_
  refine lv_aload_n hx hb dL_law_386 rfl (lv_at hl 3 rfl) ?_
  refine lv_iload_n hx hb dL_law_387 rfl (lv_at hl 0 rfl) ?_
  refine lv_iconst (v := 2) hx hb dL_law_388 (by decide) ?_
  refine lv_iadd hx hb dL_law_389 ?_
  refine va_sld hx hb hX hbl hbA hS hin2 dL_law_390 ?_
  refine kI (runV (As := [.int (xs (x3 + 1).toNatClampNeg), .int (xs (x3 + 2).toNatClampNeg)]) (rest := [.int zc.1]) C0 hE hAb hP (hD.addr rfl) hS [31, 32] (wc := [oX6 w w_undos w_seed w_entries, aJ cJ (w 1) 3420 w_w]) (by decide) rfl 31 rfl rfl (c_X6_rank l D cI cJ cZ cQ s.heap.size H.size w w_undos w_seed w_entries w_w (xs (x3 + 1).toNatClampNeg) (xs (x3 + 2).toNatClampNeg) zm hzm) (cwV 2 hts gL_law_X6_rank rfl rfl rfl (by decide +kernel) ⟨Nat.le_of_ble_eq_true rfl, Nat.le_of_ble_eq_true rfl⟩) rfl hl.1 rfl (Nat.le_of_ble_eq_true rfl) dL_law_391 ⟨(show (kc + 0) + 0 ≤ 600000 by omega), (show (ks + 0) + 0 ≤ 7302250 by omega)⟩) hS hP (fun H locs hP hS => ?_)
  refine lv_icmp_eq (tgt := 1184) hx hb dL_law_394 (by decide) (fun _ => ?_) (fun cn => absurd heq cn)
  refine W.widen (k := kc + 117) (n := ks + 2444) (by omega) (by omega) ?_
  exact K H locs ls (by unfold LSt; exact ⟨x_random, b_keyCount, b_sheetSet, b_handSort, b_handNumber, b_kinds, b_sizes, b_sorts, b_numbers, b_weights, b_keySlots, b_keyBys, b_keyWays, h_next, h_count, k_count, k_places, k_positions, zc.2.2.2.2, zc.2.1, zc.2.2.1, zc.2.2.2.1, r_longest, q_length, q_lesser, q_positions, q_places, q_longest, v_count, v_from, v_oldSorts, v_oldNumbers, x_imageRandoms, w_undos, w_seed, w_entries, w_w, w_imageSeed, w_isKept, w_bookPlace, w_bookPosition, w_scratch, w_from, w_heldSort, w_heldNumber, P_hs, pl, hpl, hR, hP, hD.addr rfl, hS, hl⟩)
set_option maxHeartbeats 4000000 in
set_option maxRecDepth 100000 in
theorem lc_compare {p : Program} {e : Env} {s : State} {m : MethodId} {below : List Frame} {meth : Method} {c : Code} (l : Launch) {sb L : Nat} {xs : Nat → Int32} (hx : p.tables.exec = Jvm.exec) (hb : c.code = code) (C0 : CallFix p m c code 4 s #[Value.ref sb] wsL_law RL) (hX : va_X sb L xs s s.heap) (hbl : sb < s.heap.size) (D : va_G) (cI cJ cZ cQ : ClassId) (hE : Ev D cI cJ cZ cQ s.heap.size s) (x b h k r q v w : Nat → Nat) (x3 : Int32) (hin1 : vp_in (x3 + 1) L) (hin2 : vp_in (x3 + 2) L) (hin3 : vp_in (x3 + 3) L) (hin4 : vp_in (x3 + 4) L) (hin5 : vp_in (x3 + 5) L) (kc ks : Nat) (hkc : kc + 117 ≤ 600000) (hks : ks + 2444 ≤ 7302250) (H : Heap) (locs : List Loc) (ls : Array Slot) (hSt : LSt D cI cJ cZ cQ s sb x b h k r q v w x3 H locs ls)
    (K : ∀ (H : Heap) (locs : List Loc) (ls : Array Slot), LSt D cI cJ cZ cQ s sb x b h k r q v w x3 H locs ls → W p l e room_1 s m #[Value.ref sb] below meth c H locs (kc + 117) (ks + 2444) (lw_Z below #[Value.ref sb] s) (F0 m 1184 ls [])) : W p l e room_1 s m #[Value.ref sb] below meth c H locs kc ks (lw_Z below #[Value.ref sb] s) (F0 m 399 ls []) := by
  unfold LSt at hSt
  obtain ⟨x_random, b_keyCount, b_sheetSet, b_handSort, b_handNumber, b_kinds, b_sizes, b_sorts, b_numbers, b_weights, b_keySlots, b_keyBys, b_keyWays, h_next, h_count, k_count, k_places, k_positions, r_length, r_lesser, r_positions, r_places, r_longest, q_length, q_lesser, q_positions, q_places, q_longest, v_count, v_from, v_oldSorts, v_oldNumbers, x_imageRandoms, w_undos, w_seed, w_entries, w_w, w_imageSeed, w_isKept, w_bookPlace, w_bookPosition, w_scratch, w_from, w_heldSort, w_heldNumber, P_hs, pl, hpl, hR, hP, hD, hS, hl⟩ := hSt
  obtain ⟨-, -, hml, hown, hts⟩ := id C0
  have hAb : ∀ q, (fun q : Nat => s.heap.size ≤ q) q → s.heap.size ≤ q := fun _ h => h
  have hA : ∀ q : Nat, s.heap.size ≤ q → (fun q : Nat => s.heap.size ≤ q) q := fun _ h => h
  have hbA : ¬ (fun q : Nat => s.heap.size ≤ q) sb := Nat.not_le.mpr hbl
  refine lv_aload_n hx hb dL_law_399 rfl (lv_at hl 2 rfl) ?_
  refine lv_aload_n hx hb dL_law_400 rfl (lv_at hl 3 rfl) ?_
  refine lv_iload_n hx hb dL_law_401 rfl (lv_at hl 0 rfl) ?_
  refine lv_iconst (v := 1) hx hb dL_law_402 (by decide) ?_
  refine lv_iadd hx hb dL_law_403 ?_
  refine va_sld hx hb hX hbl hbA hS hin1 dL_law_404 ?_
  refine lv_aload_n hx hb dL_law_405 rfl (lv_at hl 3 rfl) ?_
  refine lv_iload_n hx hb dL_law_406 rfl (lv_at hl 0 rfl) ?_
  refine lv_iconst (v := 2) hx hb dL_law_407 (by decide) ?_
  refine lv_iadd hx hb dL_law_408 ?_
  refine va_sld hx hb hX hbl hbA hS hin2 dL_law_409 ?_
  obtain ⟨zc, zm, hzc, hzm, heq, hR⟩ := sim_compare hR (xs (x3 + 1).toNatClampNeg) (xs (x3 + 2).toNatClampNeg)
  refine kI (runV (As := [.int (xs (x3 + 1).toNatClampNeg), .int (xs (x3 + 2).toNatClampNeg)]) (rest := []) C0 hE hAb hP (hD.addr rfl) hS [0, 1, 2, 3, 4, 5, 6, 7, 8, 9] (wc := [oX5 x b h k r q v x_random, oX0 b b_keyCount b_sheetSet b_handSort b_handNumber, aI cI (b 1) 6 b_kinds, aI cI (b 2) 6 b_sizes, aI cI (b 3) 72 b_sorts, aJ cJ (b 4) 72 b_numbers, aI cI (b 5) 8 b_weights, aI cI (b 6) 4 b_keySlots, aI cI (b 7) 4 b_keyBys, aI cI (b 8) 4 b_keyWays]) (by decide) rfl 0 rfl rfl (c_X5_compare l D cI cJ cZ cQ s.heap.size H.size x b h k r q v x_random b_keyCount b_sheetSet b_handSort b_handNumber b_kinds b_sizes b_sorts b_numbers b_weights b_keySlots b_keyBys b_keyWays (xs (x3 + 1).toNatClampNeg) (xs (x3 + 2).toNatClampNeg) zc hzc) (cwV 2 hts gL_law_X5_compare rfl rfl rfl (by decide +kernel) ⟨Nat.le_of_ble_eq_true rfl, Nat.le_of_ble_eq_true rfl⟩) rfl hl.1 rfl (Nat.le_of_ble_eq_true rfl) dL_law_410 ⟨(show kc + 0 ≤ 600000 by omega), (show ks + 0 ≤ 7302250 by omega)⟩) hS hP (fun H locs hP hS => ?_)
  refine lv_aload_n hx hb dL_law_413 rfl (lv_at hl 1 rfl) ?_
  refine lv_aload_n hx hb dL_law_414 rfl (lv_at hl 3 rfl) ?_
  refine lv_iload_n hx hb dL_law_415 rfl (lv_at hl 0 rfl) ?_
  refine lv_iconst (v := 1) hx hb dL_law_416 (by decide) ?_
  refine lv_iadd hx hb dL_law_417 ?_
  refine va_sld hx hb hX hbl hbA hS hin1 dL_law_418 ?_
  refine lv_aload_n hx hb dL_law_419 rfl (lv_at hl 3 rfl) ?_
  refine lv_iload_n hx hb dL_law_420 rfl (lv_at hl 0 rfl) ?_
  refine lv_iconst (v := 2) hx hb dL_law_421 (by decide) ?_
  refine lv_iadd hx hb dL_law_422 ?_
  refine va_sld hx hb hX hbl hbA hS hin2 dL_law_423 ?_
  refine kI (runV (As := [.int (xs (x3 + 1).toNatClampNeg), .int (xs (x3 + 2).toNatClampNeg)]) (rest := [.int zc]) C0 hE hAb hP (hD.addr rfl) hS [31, 32] (wc := [oX6 w w_undos w_seed w_entries, aJ cJ (w 1) 3420 w_w]) (by decide) rfl 31 rfl rfl (c_X6_compare l D cI cJ cZ cQ s.heap.size H.size w w_undos w_seed w_entries w_w (xs (x3 + 1).toNatClampNeg) (xs (x3 + 2).toNatClampNeg) zm hzm) (cwV 2 hts gL_law_X6_compare rfl rfl rfl (by decide +kernel) ⟨Nat.le_of_ble_eq_true rfl, Nat.le_of_ble_eq_true rfl⟩) rfl hl.1 rfl (Nat.le_of_ble_eq_true rfl) dL_law_424 ⟨(show (kc + 0) + 0 ≤ 600000 by omega), (show (ks + 0) + 0 ≤ 7302250 by omega)⟩) hS hP (fun H locs hP hS => ?_)
  refine lv_icmp_eq (tgt := 1184) hx hb dL_law_427 (by decide) (fun _ => ?_) (fun cn => absurd heq cn)
  refine W.widen (k := kc + 117) (n := ks + 2444) (by omega) (by omega) ?_
  exact K H locs ls (by unfold LSt; exact ⟨x_random, b_keyCount, b_sheetSet, b_handSort, b_handNumber, b_kinds, b_sizes, b_sorts, b_numbers, b_weights, b_keySlots, b_keyBys, b_keyWays, h_next, h_count, k_count, k_places, k_positions, r_length, r_lesser, r_positions, r_places, r_longest, q_length, q_lesser, q_positions, q_places, q_longest, v_count, v_from, v_oldSorts, v_oldNumbers, x_imageRandoms, w_undos, w_seed, w_entries, w_w, w_imageSeed, w_isKept, w_bookPlace, w_bookPosition, w_scratch, w_from, w_heldSort, w_heldNumber, P_hs, pl, hpl, hR, hP, hD.addr rfl, hS, hl⟩)
