/-! the law: calls 0 to 3 -/
set_option maxHeartbeats 4000000 in
set_option maxRecDepth 100000 in
theorem lc_told {p : Program} {e : Env} {s : State} {m : MethodId} {below : List Frame} {meth : Method} {c : Code} (l : Launch) {sb L : Nat} {xs : Nat → Int32} (hx : p.tables.exec = Jvm.exec) (hb : c.code = code) (C0 : CallFix p m c code 4 s #[Value.ref sb] wsL_law RL) (hX : va_X sb L xs s s.heap) (hbl : sb < s.heap.size) (D : va_G) (cI cJ cZ cQ : ClassId) (hE : Ev D cI cJ cZ cQ s.heap.size s) (x b h k r q v w : Nat → Nat) (x3 : Int32) (hin1 : vp_in (x3 + 1) L) (hin2 : vp_in (x3 + 2) L) (hin3 : vp_in (x3 + 3) L) (hin4 : vp_in (x3 + 4) L) (hin5 : vp_in (x3 + 5) L) (kc ks : Nat) (hkc : kc + 117 ≤ 600000) (hks : ks + 2444 ≤ 7302250) (H : Heap) (locs : List Loc) (ls : Array Slot) (hSt : LSt D cI cJ cZ cQ s sb x b h k r q v w x3 H locs ls)
    (K : ∀ (H : Heap) (locs : List Loc) (ls : Array Slot), LSt D cI cJ cZ cQ s sb x b h k r q v w x3 H locs ls → W p l e room_1 s m #[Value.ref sb] below meth c H locs (kc + 117) (ks + 2444) (lw_Z below #[Value.ref sb] s) (F0 m 1184 ls [])) : W p l e room_1 s m #[Value.ref sb] below meth c H locs kc ks (lw_Z below #[Value.ref sb] s) (F0 m 176 ls []) := by
  unfold LSt at hSt
  obtain ⟨x_random, b_keyCount, b_sheetSet, b_handSort, b_handNumber, b_kinds, b_sizes, b_sorts, b_numbers, b_weights, b_keySlots, b_keyBys, b_keyWays, h_next, h_count, k_count, k_places, k_positions, r_length, r_lesser, r_positions, r_places, r_longest, q_length, q_lesser, q_positions, q_places, q_longest, v_count, v_from, v_oldSorts, v_oldNumbers, x_imageRandoms, w_undos, w_seed, w_entries, w_w, w_imageSeed, w_isKept, w_bookPlace, w_bookPosition, w_scratch, w_from, w_heldSort, w_heldNumber, P_hs, pl, hpl, hR, hP, hD, hS, hl⟩ := hSt
  obtain ⟨-, -, hml, hown, hts⟩ := id C0
  have hAb : ∀ q, (fun q : Nat => s.heap.size ≤ q) q → s.heap.size ≤ q := fun _ h => h
  have hA : ∀ q : Nat, s.heap.size ≤ q → (fun q : Nat => s.heap.size ≤ q) q := fun _ h => h
  have hbA : ¬ (fun q : Nat => s.heap.size ≤ q) sb := Nat.not_le.mpr hbl
  refine lv_aload_n hx hb dL_law_176 rfl (lv_at hl 2 rfl) ?_
  refine lv_aload_n hx hb dL_law_177 rfl (lv_at hl 3 rfl) ?_
  refine lv_iload_n hx hb dL_law_178 rfl (lv_at hl 0 rfl) ?_
  refine lv_iconst (v := 1) hx hb dL_law_179 (by decide) ?_
  refine lv_iadd hx hb dL_law_180 ?_
  refine va_sld hx hb hX hbl hbA hS hin1 dL_law_181 ?_
  obtain ⟨zc, zm, hzc, hzm, heq, hR⟩ := sim_told hR r_lesser r_positions r_places r_longest r_length q_lesser q_positions q_places q_length w_scratch (xs (x3 + 1).toNatClampNeg)
  refine kwI (runV (As := [.int (xs (x3 + 1).toNatClampNeg)]) (rest := []) C0 hE hAb hP (hD.addr rfl) hS [0, 1, 2, 3, 4, 5, 6, 7, 8, 9, 10, 12, 13, 14, 15, 16, 17, 18, 19, 20, 21, 22, 23] (wc := [oX5 x b h k r q v x_random, oX0 b b_keyCount b_sheetSet b_handSort b_handNumber, aI cI (b 1) 6 b_kinds, aI cI (b 2) 6 b_sizes, aI cI (b 3) 72 b_sorts, aJ cJ (b 4) 72 b_numbers, aI cI (b 5) 8 b_weights, aI cI (b 6) 4 b_keySlots, aI cI (b 7) 4 b_keyBys, aI cI (b 8) 4 b_keyWays, oX2 h h_next h_count, oX1 k k_count, aI cI (k 1) 20 k_places, aI cI (k 2) 20 k_positions, oX4 r r_length, aI cI (r 1) 12 r_lesser, aI cI (r 2) 12 r_positions, aI cI (r 3) 12 r_places, aI cI (r 4) 12 r_longest, oX4 q q_length, aI cI (q 1) 12 q_lesser, aI cI (q 2) 12 q_positions, aI cI (q 3) 12 q_places]) (by decide) rfl 0 rfl rfl (c_X5_told l D cI cJ cZ cQ s.heap.size H.size x b h k r q v x_random b_keyCount b_sheetSet b_handSort b_handNumber b_kinds b_sizes b_sorts b_numbers b_weights b_keySlots b_keyBys b_keyWays h_next h_count k_count k_places k_positions r_length r_lesser r_positions r_places r_longest q_length q_lesser q_positions q_places (xs (x3 + 1).toNatClampNeg) zc hzc) (cwV 1 hts gL_law_X5_told rfl rfl rfl (by decide +kernel) ⟨Nat.le_of_ble_eq_true rfl, Nat.le_of_ble_eq_true rfl⟩) rfl hl.1 rfl (Nat.le_of_ble_eq_true rfl) dL_law_182 ⟨(show kc + 0 ≤ 600000 by omega), (show ks + 0 ≤ 7302250 by omega)⟩) hS hP (hD.addr rfl) hA [0, 1, 2, 3, 4, 5, 6, 7, 8, 9, 10, 12, 13, 14, 15, 16, 17, 18, 19, 20, 21, 22, 23] rfl rfl (ws' := ([oX5 x b h k r q v x_random, oX0 b b_keyCount b_sheetSet b_handSort b_handNumber, aI cI (b 1) 6 b_kinds, aI cI (b 2) 6 b_sizes, aI cI (b 3) 72 b_sorts, aJ cJ (b 4) 72 b_numbers, aI cI (b 5) 8 b_weights, aI cI (b 6) 4 b_keySlots, aI cI (b 7) 4 b_keyBys, aI cI (b 8) 4 b_keyWays, oX2 h h_next h_count, aQ cQ (h 1) 16 (hB pl), oX1 k k_count, aI cI (k 1) 20 k_places, aI cI (k 2) 20 k_positions, oX4 r zc.2.2.2.2.2.1, aI cI (r 1) 12 zc.2.1, aI cI (r 2) 12 zc.2.2.1, aI cI (r 3) 12 zc.2.2.2.1, aI cI (r 4) 12 zc.2.2.2.2.1, oX4 q zc.2.2.2.2.2.2.2.2.2, aI cI (q 1) 12 zc.2.2.2.2.2.2.1, aI cI (q 2) 12 zc.2.2.2.2.2.2.2.1, aI cI (q 3) 12 zc.2.2.2.2.2.2.2.2.1, aI cI (q 4) 12 q_longest, oX3 v v_count, aI cI (v 1) 12 v_from, aI cI (v 2) 12 v_oldSorts, aJ cJ (v 3) 12 v_oldNumbers, aQ cQ (x 1) 2 (iB pl), aI cI (x 2) 2 x_imageRandoms, oX6 w w_undos w_seed w_entries, aJ cJ (w 1) 3420 w_w, aI cI (w 2) 2 w_imageSeed, aI cZ (w 3) 2 w_isKept, aI cI (w 4) 20 w_bookPlace, aI cI (w 5) 20 w_bookPosition, aI cI (w 6) 12 w_scratch, aI cI (w 7) 12 w_from, aJ cJ (w 8) 12 w_heldSort, aJ cJ (w 9) 12 w_heldNumber] ++ plW cI cJ pl 18)) (setAll_x (n := 41) (isR := [11, 24, 25, 26, 27, 28, 29, 30, 31, 32, 33, 34, 35, 36, 37, 38, 39, 40]) (wr := [aQ cQ (h 1) 16 (hB pl), aI cI (q 4) 12 q_longest, oX3 v v_count, aI cI (v 1) 12 v_from, aI cI (v 2) 12 v_oldSorts, aJ cJ (v 3) 12 v_oldNumbers, aQ cQ (x 1) 2 (iB pl), aI cI (x 2) 2 x_imageRandoms, oX6 w w_undos w_seed w_entries, aJ cJ (w 1) 3420 w_w, aI cI (w 2) 2 w_imageSeed, aI cZ (w 3) 2 w_isKept, aI cI (w 4) 20 w_bookPlace, aI cI (w 5) 20 w_bookPosition, aI cI (w 6) 12 w_scratch, aI cI (w 7) 12 w_from, aJ cJ (w 8) 12 w_heldSort, aJ cJ (w 9) 12 w_heldNumber]) rfl rfl rfl rfl rfl (by decide)) rfl (fun H locs hP hS => ?_)
  refine lv_aload_n hx hb dL_law_185 rfl (lv_at hl 1 rfl) ?_
  refine lv_aload_n hx hb dL_law_186 rfl (lv_at hl 3 rfl) ?_
  refine lv_iload_n hx hb dL_law_187 rfl (lv_at hl 0 rfl) ?_
  refine lv_iconst (v := 1) hx hb dL_law_188 (by decide) ?_
  refine lv_iadd hx hb dL_law_189 ?_
  refine va_sld hx hb hX hbl hbA hS hin1 dL_law_190 ?_
  refine kwI (runV (As := [.int (xs (x3 + 1).toNatClampNeg)]) (rest := [.int zc.1]) C0 hE hAb hP (hD.addr rfl) hS [31, 32, 35, 36, 37] (wc := [oX6 w w_undos w_seed w_entries, aJ cJ (w 1) 3420 w_w, aI cI (w 4) 20 w_bookPlace, aI cI (w 5) 20 w_bookPosition, aI cI (w 6) 12 w_scratch]) (by decide) rfl 31 rfl rfl (c_X6_told l D cI cJ cZ cQ s.heap.size H.size w w_undos w_seed w_entries w_w w_bookPlace w_bookPosition w_scratch (xs (x3 + 1).toNatClampNeg) zm hzm) (cwV 1 hts gL_law_X6_told rfl rfl rfl (by decide +kernel) ⟨Nat.le_of_ble_eq_true rfl, Nat.le_of_ble_eq_true rfl⟩) rfl hl.1 rfl (Nat.le_of_ble_eq_true rfl) dL_law_191 ⟨(show (kc + 0) + 0 ≤ 600000 by omega), (show (ks + 0) + 0 ≤ 7302250 by omega)⟩) hS hP (hD.addr rfl) hA [31, 32, 35, 36, 37] rfl rfl (ws' := ([oX5 x b h k r q v x_random, oX0 b b_keyCount b_sheetSet b_handSort b_handNumber, aI cI (b 1) 6 b_kinds, aI cI (b 2) 6 b_sizes, aI cI (b 3) 72 b_sorts, aJ cJ (b 4) 72 b_numbers, aI cI (b 5) 8 b_weights, aI cI (b 6) 4 b_keySlots, aI cI (b 7) 4 b_keyBys, aI cI (b 8) 4 b_keyWays, oX2 h h_next h_count, aQ cQ (h 1) 16 (hB pl), oX1 k k_count, aI cI (k 1) 20 k_places, aI cI (k 2) 20 k_positions, oX4 r zc.2.2.2.2.2.1, aI cI (r 1) 12 zc.2.1, aI cI (r 2) 12 zc.2.2.1, aI cI (r 3) 12 zc.2.2.2.1, aI cI (r 4) 12 zc.2.2.2.2.1, oX4 q zc.2.2.2.2.2.2.2.2.2, aI cI (q 1) 12 zc.2.2.2.2.2.2.1, aI cI (q 2) 12 zc.2.2.2.2.2.2.2.1, aI cI (q 3) 12 zc.2.2.2.2.2.2.2.2.1, aI cI (q 4) 12 q_longest, oX3 v v_count, aI cI (v 1) 12 v_from, aI cI (v 2) 12 v_oldSorts, aJ cJ (v 3) 12 v_oldNumbers, aQ cQ (x 1) 2 (iB pl), aI cI (x 2) 2 x_imageRandoms, oX6 w w_undos w_seed w_entries, aJ cJ (w 1) 3420 w_w, aI cI (w 2) 2 w_imageSeed, aI cZ (w 3) 2 w_isKept, aI cI (w 4) 20 w_bookPlace, aI cI (w 5) 20 w_bookPosition, aI cI (w 6) 12 zm.2, aI cI (w 7) 12 w_from, aJ cJ (w 8) 12 w_heldSort, aJ cJ (w 9) 12 w_heldNumber] ++ plW cI cJ pl 18)) (setAll_x (n := 41) (isR := [0, 1, 2, 3, 4, 5, 6, 7, 8, 9, 10, 11, 12, 13, 14, 15, 16, 17, 18, 19, 20, 21, 22, 23, 24, 25, 26, 27, 28, 29, 30, 33, 34, 38, 39, 40]) (wr := [oX5 x b h k r q v x_random, oX0 b b_keyCount b_sheetSet b_handSort b_handNumber, aI cI (b 1) 6 b_kinds, aI cI (b 2) 6 b_sizes, aI cI (b 3) 72 b_sorts, aJ cJ (b 4) 72 b_numbers, aI cI (b 5) 8 b_weights, aI cI (b 6) 4 b_keySlots, aI cI (b 7) 4 b_keyBys, aI cI (b 8) 4 b_keyWays, oX2 h h_next h_count, aQ cQ (h 1) 16 (hB pl), oX1 k k_count, aI cI (k 1) 20 k_places, aI cI (k 2) 20 k_positions, oX4 r zc.2.2.2.2.2.1, aI cI (r 1) 12 zc.2.1, aI cI (r 2) 12 zc.2.2.1, aI cI (r 3) 12 zc.2.2.2.1, aI cI (r 4) 12 zc.2.2.2.2.1, oX4 q zc.2.2.2.2.2.2.2.2.2, aI cI (q 1) 12 zc.2.2.2.2.2.2.1, aI cI (q 2) 12 zc.2.2.2.2.2.2.2.1, aI cI (q 3) 12 zc.2.2.2.2.2.2.2.2.1, aI cI (q 4) 12 q_longest, oX3 v v_count, aI cI (v 1) 12 v_from, aI cI (v 2) 12 v_oldSorts, aJ cJ (v 3) 12 v_oldNumbers, aQ cQ (x 1) 2 (iB pl), aI cI (x 2) 2 x_imageRandoms, aI cI (w 2) 2 w_imageSeed, aI cZ (w 3) 2 w_isKept, aI cI (w 7) 12 w_from, aJ cJ (w 8) 12 w_heldSort, aJ cJ (w 9) 12 w_heldNumber]) rfl rfl rfl rfl rfl (by decide)) rfl (fun H locs hP hS => ?_)
  refine lv_icmp_eq (tgt := 1184) hx hb dL_law_194 (by decide) (fun _ => ?_) (fun cn => absurd heq cn)
  refine W.widen (k := kc + 117) (n := ks + 2444) (by omega) (by omega) ?_
  exact K H locs ls (by unfold LSt; exact ⟨x_random, b_keyCount, b_sheetSet, b_handSort, b_handNumber, b_kinds, b_sizes, b_sorts, b_numbers, b_weights, b_keySlots, b_keyBys, b_keyWays, h_next, h_count, k_count, k_places, k_positions, zc.2.2.2.2.2.1, zc.2.1, zc.2.2.1, zc.2.2.2.1, zc.2.2.2.2.1, zc.2.2.2.2.2.2.2.2.2, zc.2.2.2.2.2.2.1, zc.2.2.2.2.2.2.2.1, zc.2.2.2.2.2.2.2.2.1, q_longest, v_count, v_from, v_oldSorts, v_oldNumbers, x_imageRandoms, w_undos, w_seed, w_entries, w_w, w_imageSeed, w_isKept, w_bookPlace, w_bookPosition, zm.2, w_from, w_heldSort, w_heldNumber, P_hs, pl, hpl, hR, hP, hD.addr rfl, hS, hl⟩)
set_option maxHeartbeats 4000000 in
set_option maxRecDepth 100000 in
theorem lc_row {p : Program} {e : Env} {s : State} {m : MethodId} {below : List Frame} {meth : Method} {c : Code} (l : Launch) {sb L : Nat} {xs : Nat → Int32} (hx : p.tables.exec = Jvm.exec) (hb : c.code = code) (C0 : CallFix p m c code 4 s #[Value.ref sb] wsL_law RL) (hX : va_X sb L xs s s.heap) (hbl : sb < s.heap.size) (D : va_G) (cI cJ cZ cQ : ClassId) (hE : Ev D cI cJ cZ cQ s.heap.size s) (x b h k r q v w : Nat → Nat) (x3 : Int32) (hin1 : vp_in (x3 + 1) L) (hin2 : vp_in (x3 + 2) L) (hin3 : vp_in (x3 + 3) L) (hin4 : vp_in (x3 + 4) L) (hin5 : vp_in (x3 + 5) L) (kc ks : Nat) (hkc : kc + 117 ≤ 600000) (hks : ks + 2444 ≤ 7302250) (H : Heap) (locs : List Loc) (ls : Array Slot) (hSt : LSt D cI cJ cZ cQ s sb x b h k r q v w x3 H locs ls)
    (K : ∀ (H : Heap) (locs : List Loc) (ls : Array Slot), LSt D cI cJ cZ cQ s sb x b h k r q v w x3 H locs ls → W p l e room_1 s m #[Value.ref sb] below meth c H locs (kc + 117) (ks + 2444) (lw_Z below #[Value.ref sb] s) (F0 m 1184 ls [])) : W p l e room_1 s m #[Value.ref sb] below meth c H locs kc ks (lw_Z below #[Value.ref sb] s) (F0 m 199 ls []) := by
  unfold LSt at hSt
  obtain ⟨x_random, b_keyCount, b_sheetSet, b_handSort, b_handNumber, b_kinds, b_sizes, b_sorts, b_numbers, b_weights, b_keySlots, b_keyBys, b_keyWays, h_next, h_count, k_count, k_places, k_positions, r_length, r_lesser, r_positions, r_places, r_longest, q_length, q_lesser, q_positions, q_places, q_longest, v_count, v_from, v_oldSorts, v_oldNumbers, x_imageRandoms, w_undos, w_seed, w_entries, w_w, w_imageSeed, w_isKept, w_bookPlace, w_bookPosition, w_scratch, w_from, w_heldSort, w_heldNumber, P_hs, pl, hpl, hR, hP, hD, hS, hl⟩ := hSt
  obtain ⟨-, -, hml, hown, hts⟩ := id C0
  have hAb : ∀ q, (fun q : Nat => s.heap.size ≤ q) q → s.heap.size ≤ q := fun _ h => h
  have hA : ∀ q : Nat, s.heap.size ≤ q → (fun q : Nat => s.heap.size ≤ q) q := fun _ h => h
  have hbA : ¬ (fun q : Nat => s.heap.size ≤ q) sb := Nat.not_le.mpr hbl
  refine lv_aload_n hx hb dL_law_199 rfl (lv_at hl 2 rfl) ?_
  refine lv_aload_n hx hb dL_law_200 rfl (lv_at hl 3 rfl) ?_
  refine lv_iload_n hx hb dL_law_201 rfl (lv_at hl 0 rfl) ?_
  refine lv_iconst (v := 1) hx hb dL_law_202 (by decide) ?_
  refine lv_iadd hx hb dL_law_203 ?_
  refine va_sld hx hb hX hbl hbA hS hin1 dL_law_204 ?_
  refine lv_aload_n hx hb dL_law_205 rfl (lv_at hl 3 rfl) ?_
  refine lv_iload_n hx hb dL_law_206 rfl (lv_at hl 0 rfl) ?_
  refine lv_iconst (v := 2) hx hb dL_law_207 (by decide) ?_
  refine lv_iadd hx hb dL_law_208 ?_
  refine va_sld hx hb hX hbl hbA hS hin2 dL_law_209 ?_
  obtain ⟨zc, zm, hzc, hzm, heq, hR⟩ := sim_row hR (xs (x3 + 1).toNatClampNeg) (xs (x3 + 2).toNatClampNeg)
  refine kI (runV (As := [.int (xs (x3 + 1).toNatClampNeg), .int (xs (x3 + 2).toNatClampNeg)]) (rest := []) C0 hE hAb hP (hD.addr rfl) hS [0, 1, 2, 3] (wc := [oX5 x b h k r q v x_random, oX0 b b_keyCount b_sheetSet b_handSort b_handNumber, aI cI (b 1) 6 b_kinds, aI cI (b 2) 6 b_sizes]) (by decide) rfl 0 rfl rfl (c_X5_row l D cI cJ cZ cQ s.heap.size H.size x b h k r q v x_random b_keyCount b_sheetSet b_handSort b_handNumber b_kinds b_sizes (xs (x3 + 1).toNatClampNeg) (xs (x3 + 2).toNatClampNeg) zc hzc) (cwV 2 hts gL_law_X5_row rfl rfl rfl (by decide +kernel) ⟨Nat.le_of_ble_eq_true rfl, Nat.le_of_ble_eq_true rfl⟩) rfl hl.1 rfl (Nat.le_of_ble_eq_true rfl) dL_law_210 ⟨(show kc + 0 ≤ 600000 by omega), (show ks + 0 ≤ 7302250 by omega)⟩) hS hP (fun H locs hP hS => ?_)
  refine lv_aload_n hx hb dL_law_213 rfl (lv_at hl 1 rfl) ?_
  refine lv_aload_n hx hb dL_law_214 rfl (lv_at hl 3 rfl) ?_
  refine lv_iload_n hx hb dL_law_215 rfl (lv_at hl 0 rfl) ?_
  refine lv_iconst (v := 1) hx hb dL_law_216 (by decide) ?_
  refine lv_iadd hx hb dL_law_217 ?_
  refine va_sld hx hb hX hbl hbA hS hin1 dL_law_218 ?_
  refine lv_aload_n hx hb dL_law_219 rfl (lv_at hl 3 rfl) ?_
  refine lv_iload_n hx hb dL_law_220 rfl (lv_at hl 0 rfl) ?_
  refine lv_iconst (v := 2) hx hb dL_law_221 (by decide) ?_
  refine lv_iadd hx hb dL_law_222 ?_
  refine va_sld hx hb hX hbl hbA hS hin2 dL_law_223 ?_
  refine kI (runV (As := [.int (xs (x3 + 1).toNatClampNeg), .int (xs (x3 + 2).toNatClampNeg)]) (rest := [.int zc]) C0 hE hAb hP (hD.addr rfl) hS [31, 32] (wc := [oX6 w w_undos w_seed w_entries, aJ cJ (w 1) 3420 w_w]) (by decide) rfl 31 rfl rfl (c_X6_row l D cI cJ cZ cQ s.heap.size H.size w w_undos w_seed w_entries w_w (xs (x3 + 1).toNatClampNeg) (xs (x3 + 2).toNatClampNeg) zm hzm) (cwV 2 hts gL_law_X6_row rfl rfl rfl (by decide +kernel) ⟨Nat.le_of_ble_eq_true rfl, Nat.le_of_ble_eq_true rfl⟩) rfl hl.1 rfl (Nat.le_of_ble_eq_true rfl) dL_law_224 ⟨(show (kc + 0) + 0 ≤ 600000 by omega), (show (ks + 0) + 0 ≤ 7302250 by omega)⟩) hS hP (fun H locs hP hS => ?_)
  refine lv_icmp_eq (tgt := 1184) hx hb dL_law_227 (by decide) (fun _ => ?_) (fun cn => absurd heq cn)
  refine W.widen (k := kc + 117) (n := ks + 2444) (by omega) (by omega) ?_
  exact K H locs ls (by unfold LSt; exact ⟨x_random, b_keyCount, b_sheetSet, b_handSort, b_handNumber, b_kinds, b_sizes, b_sorts, b_numbers, b_weights, b_keySlots, b_keyBys, b_keyWays, h_next, h_count, k_count, k_places, k_positions, r_length, r_lesser, r_positions, r_places, r_longest, q_length, q_lesser, q_positions, q_places, q_longest, v_count, v_from, v_oldSorts, v_oldNumbers, x_imageRandoms, w_undos, w_seed, w_entries, w_w, w_imageSeed, w_isKept, w_bookPlace, w_bookPosition, w_scratch, w_from, w_heldSort, w_heldNumber, P_hs, pl, hpl, hR, hP, hD.addr rfl, hS, hl⟩)
set_option maxHeartbeats 4000000 in
set_option maxRecDepth 100000 in
theorem lc_cell {p : Program} {e : Env} {s : State} {m : MethodId} {below : List Frame} {meth : Method} {c : Code} (l : Launch) {sb L : Nat} {xs : Nat → Int32} (hx : p.tables.exec = Jvm.exec) (hb : c.code = code) (C0 : CallFix p m c code 4 s #[Value.ref sb] wsL_law RL) (hX : va_X sb L xs s s.heap) (hbl : sb < s.heap.size) (D : va_G) (cI cJ cZ cQ : ClassId) (hE : Ev D cI cJ cZ cQ s.heap.size s) (x b h k r q v w : Nat → Nat) (x3 : Int32) (hin1 : vp_in (x3 + 1) L) (hin2 : vp_in (x3 + 2) L) (hin3 : vp_in (x3 + 3) L) (hin4 : vp_in (x3 + 4) L) (hin5 : vp_in (x3 + 5) L) (kc ks : Nat) (hkc : kc + 117 ≤ 600000) (hks : ks + 2444 ≤ 7302250) (H : Heap) (locs : List Loc) (ls : Array Slot) (hSt : LSt D cI cJ cZ cQ s sb x b h k r q v w x3 H locs ls)
    (K : ∀ (H : Heap) (locs : List Loc) (ls : Array Slot), LSt D cI cJ cZ cQ s sb x b h k r q v w x3 H locs ls → W p l e room_1 s m #[Value.ref sb] below meth c H locs (kc + 117) (ks + 2444) (lw_Z below #[Value.ref sb] s) (F0 m 1184 ls [])) : W p l e room_1 s m #[Value.ref sb] below meth c H locs kc ks (lw_Z below #[Value.ref sb] s) (F0 m 232 ls []) := by
  unfold LSt at hSt
  obtain ⟨x_random, b_keyCount, b_sheetSet, b_handSort, b_handNumber, b_kinds, b_sizes, b_sorts, b_numbers, b_weights, b_keySlots, b_keyBys, b_keyWays, h_next, h_count, k_count, k_places, k_positions, r_length, r_lesser, r_positions, r_places, r_longest, q_length, q_lesser, q_positions, q_places, q_longest, v_count, v_from, v_oldSorts, v_oldNumbers, x_imageRandoms, w_undos, w_seed, w_entries, w_w, w_imageSeed, w_isKept, w_bookPlace, w_bookPosition, w_scratch, w_from, w_heldSort, w_heldNumber, P_hs, pl, hpl, hR, hP, hD, hS, hl⟩ := hSt
  obtain ⟨-, -, hml, hown, hts⟩ := id C0
  have hAb : ∀ q, (fun q : Nat => s.heap.size ≤ q) q → s.heap.size ≤ q := fun _ h => h
  have hA : ∀ q : Nat, s.heap.size ≤ q → (fun q : Nat => s.heap.size ≤ q) q := fun _ h => h
  have hbA : ¬ (fun q : Nat => s.heap.size ≤ q) sb := Nat.not_le.mpr hbl
  refine lv_aload_n hx hb dL_law_232 rfl (lv_at hl 2 rfl) ?_
  refine lv_aload_n hx hb dL_law_233 rfl (lv_at hl 3 rfl) ?_
  refine lv_iload_n hx hb dL_law_234 rfl (lv_at hl 0 rfl) ?_
  refine lv_iconst (v := 1) hx hb dL_law_235 (by decide) ?_
  refine lv_iadd hx hb dL_law_236 ?_
  refine va_sld hx hb hX hbl hbA hS hin1 dL_law_237 ?_
  refine lv_aload_n hx hb dL_law_238 rfl (lv_at hl 3 rfl) ?_
  refine lv_iload_n hx hb dL_law_239 rfl (lv_at hl 0 rfl) ?_
  refine lv_iconst (v := 2) hx hb dL_law_240 (by decide) ?_
  refine lv_iadd hx hb dL_law_241 ?_
  refine va_sld hx hb hX hbl hbA hS hin2 dL_law_242 ?_
  refine lv_aload_n hx hb dL_law_243 rfl (lv_at hl 3 rfl) ?_
  refine lv_iload_n hx hb dL_law_244 rfl (lv_at hl 0 rfl) ?_
  refine lv_iconst (v := 3) hx hb dL_law_245 (by decide) ?_
  refine lv_iadd hx hb dL_law_246 ?_
  refine va_sld hx hb hX hbl hbA hS hin3 dL_law_247 ?_
  obtain ⟨zc, zm, hzc, hzm, heq, hR⟩ := sim_cell hR (xs (x3 + 1).toNatClampNeg) (xs (x3 + 2).toNatClampNeg) (xs (x3 + 3).toNatClampNeg)
  refine kJ (runV (As := [.int (xs (x3 + 1).toNatClampNeg), .int (xs (x3 + 2).toNatClampNeg), .int (xs (x3 + 3).toNatClampNeg)]) (rest := []) C0 hE hAb hP (hD.addr rfl) hS [0, 1, 2, 3, 4, 5] (wc := [oX5 x b h k r q v x_random, oX0 b b_keyCount b_sheetSet b_handSort b_handNumber, aI cI (b 1) 6 b_kinds, aI cI (b 2) 6 b_sizes, aI cI (b 3) 72 b_sorts, aJ cJ (b 4) 72 b_numbers]) (by decide) rfl 0 rfl rfl (c_X5_cell l D cI cJ cZ cQ s.heap.size H.size x b h k r q v x_random b_keyCount b_sheetSet b_handSort b_handNumber b_kinds b_sizes b_sorts b_numbers (xs (x3 + 1).toNatClampNeg) (xs (x3 + 2).toNatClampNeg) (xs (x3 + 3).toNatClampNeg) zc hzc) (cwV 3 hts gL_law_X5_cell rfl rfl rfl (by decide +kernel) ⟨Nat.le_of_ble_eq_true rfl, Nat.le_of_ble_eq_true rfl⟩) rfl hl.1 rfl (Nat.le_of_ble_eq_true rfl) dL_law_248 ⟨(show kc + 0 ≤ 600000 by omega), (show ks + 0 ≤ 7302250 by omega)⟩) hS hP (fun H locs hP hS => ?_)
  refine lv_aload_n hx hb dL_law_251 rfl (lv_at hl 1 rfl) ?_
  refine lv_aload_n hx hb dL_law_252 rfl (lv_at hl 3 rfl) ?_
  refine lv_iload_n hx hb dL_law_253 rfl (lv_at hl 0 rfl) ?_
  refine lv_iconst (v := 1) hx hb dL_law_254 (by decide) ?_
  refine lv_iadd hx hb dL_law_255 ?_
  refine va_sld hx hb hX hbl hbA hS hin1 dL_law_256 ?_
  refine lv_aload_n hx hb dL_law_257 rfl (lv_at hl 3 rfl) ?_
  refine lv_iload_n hx hb dL_law_258 rfl (lv_at hl 0 rfl) ?_
  refine lv_iconst (v := 2) hx hb dL_law_259 (by decide) ?_
  refine lv_iadd hx hb dL_law_260 ?_
  refine va_sld hx hb hX hbl hbA hS hin2 dL_law_261 ?_
  refine lv_aload_n hx hb dL_law_262 rfl (lv_at hl 3 rfl) ?_
  refine lv_iload_n hx hb dL_law_263 rfl (lv_at hl 0 rfl) ?_
  refine lv_iconst (v := 3) hx hb dL_law_264 (by decide) ?_
  refine lv_iadd hx hb dL_law_265 ?_
  refine va_sld hx hb hX hbl hbA hS hin3 dL_law_266 ?_
  refine kJ (runV (As := [.int (xs (x3 + 1).toNatClampNeg), .int (xs (x3 + 2).toNatClampNeg), .int (xs (x3 + 3).toNatClampNeg)]) (rest := [.long zc]) C0 hE hAb hP (hD.addr rfl) hS [31, 32] (wc := [oX6 w w_undos w_seed w_entries, aJ cJ (w 1) 3420 w_w]) (by decide) rfl 31 rfl rfl (c_X6_cell l D cI cJ cZ cQ s.heap.size H.size w w_undos w_seed w_entries w_w (xs (x3 + 1).toNatClampNeg) (xs (x3 + 2).toNatClampNeg) (xs (x3 + 3).toNatClampNeg) zm hzm) (cwV 3 hts gL_law_X6_cell rfl rfl rfl (by decide +kernel) ⟨Nat.le_of_ble_eq_true rfl, Nat.le_of_ble_eq_true rfl⟩) rfl hl.1 rfl (Nat.le_of_ble_eq_true rfl) dL_law_267 ⟨(show (kc + 0) + 0 ≤ 600000 by omega), (show (ks + 0) + 0 ≤ 7302250 by omega)⟩) hS hP (fun H locs hP hS => ?_)
  refine W.lcmp hx hb dL_law_270 ?_
  refine lv_if_eq (tgt := 1184) hx hb dL_law_271 (by decide) (fun _ => ?_) (fun cn => absurd (lcmp0 heq) cn)
  refine W.widen (k := kc + 117) (n := ks + 2444) (by omega) (by omega) ?_
  exact K H locs ls (by unfold LSt; exact ⟨x_random, b_keyCount, b_sheetSet, b_handSort, b_handNumber, b_kinds, b_sizes, b_sorts, b_numbers, b_weights, b_keySlots, b_keyBys, b_keyWays, h_next, h_count, k_count, k_places, k_positions, r_length, r_lesser, r_positions, r_places, r_longest, q_length, q_lesser, q_positions, q_places, q_longest, v_count, v_from, v_oldSorts, v_oldNumbers, x_imageRandoms, w_undos, w_seed, w_entries, w_w, w_imageSeed, w_isKept, w_bookPlace, w_bookPosition, w_scratch, w_from, w_heldSort, w_heldNumber, P_hs, pl, hpl, hR, hP, hD.addr rfl, hS, hl⟩)
set_option maxHeartbeats 4000000 in
set_option maxRecDepth 100000 in
theorem lc_hand {p : Program} {e : Env} {s : State} {m : MethodId} {below : List Frame} {meth : Method} {c : Code} (l : Launch) {sb L : Nat} {xs : Nat → Int32} (hx : p.tables.exec = Jvm.exec) (hb : c.code = code) (C0 : CallFix p m c code 4 s #[Value.ref sb] wsL_law RL) (hX : va_X sb L xs s s.heap) (hbl : sb < s.heap.size) (D : va_G) (cI cJ cZ cQ : ClassId) (hE : Ev D cI cJ cZ cQ s.heap.size s) (x b h k r q v w : Nat → Nat) (x3 : Int32) (hin1 : vp_in (x3 + 1) L) (hin2 : vp_in (x3 + 2) L) (hin3 : vp_in (x3 + 3) L) (hin4 : vp_in (x3 + 4) L) (hin5 : vp_in (x3 + 5) L) (kc ks : Nat) (hkc : kc + 117 ≤ 600000) (hks : ks + 2444 ≤ 7302250) (H : Heap) (locs : List Loc) (ls : Array Slot) (hSt : LSt D cI cJ cZ cQ s sb x b h k r q v w x3 H locs ls)
    (K : ∀ (H : Heap) (locs : List Loc) (ls : Array Slot), LSt D cI cJ cZ cQ s sb x b h k r q v w x3 H locs ls → W p l e room_1 s m #[Value.ref sb] below meth c H locs (kc + 117) (ks + 2444) (lw_Z below #[Value.ref sb] s) (F0 m 1184 ls [])) : W p l e room_1 s m #[Value.ref sb] below meth c H locs kc ks (lw_Z below #[Value.ref sb] s) (F0 m 276 ls []) := by
  unfold LSt at hSt
  obtain ⟨x_random, b_keyCount, b_sheetSet, b_handSort, b_handNumber, b_kinds, b_sizes, b_sorts, b_numbers, b_weights, b_keySlots, b_keyBys, b_keyWays, h_next, h_count, k_count, k_places, k_positions, r_length, r_lesser, r_positions, r_places, r_longest, q_length, q_lesser, q_positions, q_places, q_longest, v_count, v_from, v_oldSorts, v_oldNumbers, x_imageRandoms, w_undos, w_seed, w_entries, w_w, w_imageSeed, w_isKept, w_bookPlace, w_bookPosition, w_scratch, w_from, w_heldSort, w_heldNumber, P_hs, pl, hpl, hR, hP, hD, hS, hl⟩ := hSt
  obtain ⟨-, -, hml, hown, hts⟩ := id C0
  have hAb : ∀ q, (fun q : Nat => s.heap.size ≤ q) q → s.heap.size ≤ q := fun _ h => h
  have hA : ∀ q : Nat, s.heap.size ≤ q → (fun q : Nat => s.heap.size ≤ q) q := fun _ h => h
  have hbA : ¬ (fun q : Nat => s.heap.size ≤ q) sb := Nat.not_le.mpr hbl
  refine lv_aload_n hx hb dL_law_276 rfl (lv_at hl 2 rfl) ?_
  refine lv_aload_n hx hb dL_law_277 rfl (lv_at hl 3 rfl) ?_
  refine lv_iload_n hx hb dL_law_278 rfl (lv_at hl 0 rfl) ?_
  refine lv_iconst (v := 1) hx hb dL_law_279 (by decide) ?_
  refine lv_iadd hx hb dL_law_280 ?_
  refine va_sld hx hb hX hbl hbA hS hin1 dL_law_281 ?_
  obtain ⟨zc, zm, hzc, hzm, heq, hR⟩ := sim_hand hR (xs (x3 + 1).toNatClampNeg)
  refine kJ (runV (As := [.int (xs (x3 + 1).toNatClampNeg)]) (rest := []) C0 hE hAb hP (hD.addr rfl) hS [0, 1] (wc := [oX5 x b h k r q v x_random, oX0 b b_keyCount b_sheetSet b_handSort b_handNumber]) (by decide) rfl 0 rfl rfl (c_X5_hand l D cI cJ cZ cQ s.heap.size H.size x b h k r q v x_random b_keyCount b_sheetSet b_handSort b_handNumber (xs (x3 + 1).toNatClampNeg) zc hzc) (cwV 1 hts gL_law_X5_hand rfl rfl rfl (by decide +kernel) ⟨Nat.le_of_ble_eq_true rfl, Nat.le_of_ble_eq_true rfl⟩) rfl hl.1 rfl (Nat.le_of_ble_eq_true rfl) dL_law_282 ⟨(show kc + 0 ≤ 600000 by omega), (show ks + 0 ≤ 7302250 by omega)⟩) hS hP (fun H locs hP hS => ?_)
  refine lv_aload_n hx hb dL_law_285 rfl (lv_at hl 1 rfl) ?_
  refine lv_aload_n hx hb dL_law_286 rfl (lv_at hl 3 rfl) ?_
  refine lv_iload_n hx hb dL_law_287 rfl (lv_at hl 0 rfl) ?_
  refine lv_iconst (v := 1) hx hb dL_law_288 (by decide) ?_
  refine lv_iadd hx hb dL_law_289 ?_
  refine va_sld hx hb hX hbl hbA hS hin1 dL_law_290 ?_
  refine kJ (runV (As := [.int (xs (x3 + 1).toNatClampNeg)]) (rest := [.long zc]) C0 hE hAb hP (hD.addr rfl) hS [31, 32] (wc := [oX6 w w_undos w_seed w_entries, aJ cJ (w 1) 3420 w_w]) (by decide) rfl 31 rfl rfl (c_X6_hand l D cI cJ cZ cQ s.heap.size H.size w w_undos w_seed w_entries w_w (xs (x3 + 1).toNatClampNeg) zm hzm) (cwV 1 hts gL_law_X6_hand rfl rfl rfl (by decide +kernel) ⟨Nat.le_of_ble_eq_true rfl, Nat.le_of_ble_eq_true rfl⟩) rfl hl.1 rfl (Nat.le_of_ble_eq_true rfl) dL_law_291 ⟨(show (kc + 0) + 0 ≤ 600000 by omega), (show (ks + 0) + 0 ≤ 7302250 by omega)⟩) hS hP (fun H locs hP hS => ?_)
  refine W.lcmp hx hb dL_law_294 ?_
  refine lv_if_eq (tgt := 1184) hx hb dL_law_295 (by decide) (fun _ => ?_) (fun cn => absurd (lcmp0 heq) cn)
  refine W.widen (k := kc + 117) (n := ks + 2444) (by omega) (by omega) ?_
  exact K H locs ls (by unfold LSt; exact ⟨x_random, b_keyCount, b_sheetSet, b_handSort, b_handNumber, b_kinds, b_sizes, b_sorts, b_numbers, b_weights, b_keySlots, b_keyBys, b_keyWays, h_next, h_count, k_count, k_places, k_positions, r_length, r_lesser, r_positions, r_places, r_longest, q_length, q_lesser, q_positions, q_places, q_longest, v_count, v_from, v_oldSorts, v_oldNumbers, x_imageRandoms, w_undos, w_seed, w_entries, w_w, w_imageSeed, w_isKept, w_bookPlace, w_bookPosition, w_scratch, w_from, w_heldSort, w_heldNumber, P_hs, pl, hpl, hR, hP, hD.addr rfl, hS, hl⟩)
