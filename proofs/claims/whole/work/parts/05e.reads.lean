noncomputable def f_J6_bitCount_0f7a4 (x0 : Int32) : Option (Int32) := (some ((x0 - ((UInt32.toInt32 (Int32.toUInt32 x0 >>> (Int32.toUInt32 1 &&& Int32.toUInt32 31))) &&& (1431655765 : Int32))) : Int32)).bind (fun y1 => (some (((y1 &&& (858993459 : Int32)) + ((UInt32.toInt32 (Int32.toUInt32 y1 >>> (Int32.toUInt32 2 &&& Int32.toUInt32 31))) &&& (858993459 : Int32))) : Int32)).bind (fun y2 => (some (((y2 + (UInt32.toInt32 (Int32.toUInt32 y2 >>> (Int32.toUInt32 4 &&& Int32.toUInt32 31)))) &&& (252645135 : Int32)) : Int32)).bind (fun y3 => (some ((y3 + (UInt32.toInt32 (Int32.toUInt32 y3 >>> (Int32.toUInt32 8 &&& Int32.toUInt32 31)))) : Int32)).bind (fun y4 => (some ((y4 + (UInt32.toInt32 (Int32.toUInt32 y4 >>> (Int32.toUInt32 16 &&& Int32.toUInt32 31)))) : Int32)).bind (fun y5 => some ((y5 &&& (63 : Int32))))))))
set_option maxHeartbeats 4000000 in
set_option maxRecDepth 100000 in
theorem c_J6_bitCount_0f7a4 (l : Launch) (D : va_G) (cI cJ cZ cQ : ClassId) (bs sz : Nat) (x0 : Int32) (zr : Int32) (hf : f_J6_bitCount_0f7a4 x0 = some zr) : Met l yJ6_bitCount_0f7a4 wsJ6_bitCount_0f7a4 { frames := 0, cells := 0, slots := 0, locals := 0 } (va_Pc [.int x0] (Pr D cI cJ cZ cQ bs sz [])) (QrI zr) 0 0 no := by
  refine stM (cc := cJ6_bitCount_0f7a4) (maxL := 1) (ret := (some .int)) (by decide +kernel) rfl (Nat.le_of_ble_eq_true rfl) ?_
  intro p e s m args below meth c C0 hr hlocks hname hsz hP hDb hE ls hl
  have hAb : ∀ q, no q → bs ≤ q := fun _ h => h.elim
  obtain ⟨hx, hb, hml, hown, hts⟩ := id C0
  have hown : s.vm.findClass RJ6 = some m.cls := hown
  obtain ⟨hK, hNW, -, tw, hZ, hT⟩ := id hE
  have hl : lv_has ls 1 [(0, .int x0)] := hl
  have hS : va_S no s.heap s.heap [] := va_S.rf
  have gk265 := hts (.constant RJ6 265 (1431655765)) (by decide +kernel)
  have gk266 := hts (.constant RJ6 266 (858993459)) (by decide +kernel)
  have gk267 := hts (.constant RJ6 267 (252645135)) (by decide +kernel)
  unfold f_J6_bitCount_0f7a4 at hf
  have go : ∀ (H : Heap) (locs : List Loc), va_P D vwCl [] H → va_S no s.heap H locs → W p l e { frames := 0, cells := 0, slots := 0, locals := 0 } s m args below meth c H locs 0 0 (MQ below (QrI zr) args s 0 0 no) (F0 m 0 ls []) := by
    intro H locs hP hS
    refine lv_iload_n hx hb dJ6_bitCount_0f7a4_0 rfl (lv_at hl 0 rfl) ?_
    refine lv_iload_n hx hb dJ6_bitCount_0f7a4_1 rfl (lv_at hl 0 rfl) ?_
    refine lv_iconst (v := 1) hx hb dJ6_bitCount_0f7a4_2 (by decide) ?_
    refine lv_iushr (v := (UInt32.toInt32 (Int32.toUInt32 x0 >>> (Int32.toUInt32 1 &&& Int32.toUInt32 31)))) hx hb dJ6_bitCount_0f7a4_3 rfl ?_
    refine lv_ldcw hx hb hown gk265 dJ6_bitCount_0f7a4_4 ?_
    refine lv_iand hx hb dJ6_bitCount_0f7a4_7 ?_
    refine lv_isub hx hb dJ6_bitCount_0f7a4_8 ?_
    refine lv_topi (fun y1 ey1 => ?_)
    replace hf := onm ey1 hf
    refine lv_istore_n (lv' := [(0, .int y1)]) hx hb dJ6_bitCount_0f7a4_9 rfl hl (by decide) rfl (fun ls hl => ?_)
    refine lv_iload_n hx hb dJ6_bitCount_0f7a4_10 rfl (lv_at hl 0 rfl) ?_
    refine lv_ldcw hx hb hown gk266 dJ6_bitCount_0f7a4_11 ?_
    refine lv_iand hx hb dJ6_bitCount_0f7a4_14 ?_
    refine lv_iload_n hx hb dJ6_bitCount_0f7a4_15 rfl (lv_at hl 0 rfl) ?_
    refine lv_iconst (v := 2) hx hb dJ6_bitCount_0f7a4_16 (by decide) ?_
    refine lv_iushr (v := (UInt32.toInt32 (Int32.toUInt32 y1 >>> (Int32.toUInt32 2 &&& Int32.toUInt32 31)))) hx hb dJ6_bitCount_0f7a4_17 rfl ?_
    refine lv_ldcw hx hb hown gk266 dJ6_bitCount_0f7a4_18 ?_
    refine lv_iand hx hb dJ6_bitCount_0f7a4_21 ?_
    refine lv_iadd hx hb dJ6_bitCount_0f7a4_22 ?_
    refine lv_topi (fun y2 ey2 => ?_)
    replace hf := onm ey2 hf
    refine lv_istore_n (lv' := [(0, .int y2)]) hx hb dJ6_bitCount_0f7a4_23 rfl hl (by decide) rfl (fun ls hl => ?_)
    refine lv_iload_n hx hb dJ6_bitCount_0f7a4_24 rfl (lv_at hl 0 rfl) ?_
    refine lv_iload_n hx hb dJ6_bitCount_0f7a4_25 rfl (lv_at hl 0 rfl) ?_
    refine lv_iconst (v := 4) hx hb dJ6_bitCount_0f7a4_26 (by decide) ?_
    refine lv_iushr (v := (UInt32.toInt32 (Int32.toUInt32 y2 >>> (Int32.toUInt32 4 &&& Int32.toUInt32 31)))) hx hb dJ6_bitCount_0f7a4_27 rfl ?_
    refine lv_iadd hx hb dJ6_bitCount_0f7a4_28 ?_
    refine lv_ldcw hx hb hown gk267 dJ6_bitCount_0f7a4_29 ?_
    refine lv_iand hx hb dJ6_bitCount_0f7a4_32 ?_
    refine lv_topi (fun y3 ey3 => ?_)
    replace hf := onm ey3 hf
    refine lv_istore_n (lv' := [(0, .int y3)]) hx hb dJ6_bitCount_0f7a4_33 rfl hl (by decide) rfl (fun ls hl => ?_)
    refine lv_iload_n hx hb dJ6_bitCount_0f7a4_34 rfl (lv_at hl 0 rfl) ?_
    refine lv_iload_n hx hb dJ6_bitCount_0f7a4_35 rfl (lv_at hl 0 rfl) ?_
    refine lv_bipush (v := 8) hx hb dJ6_bitCount_0f7a4_36 (by decide) ?_
    refine lv_iushr (v := (UInt32.toInt32 (Int32.toUInt32 y3 >>> (Int32.toUInt32 8 &&& Int32.toUInt32 31)))) hx hb dJ6_bitCount_0f7a4_38 rfl ?_
    refine lv_iadd hx hb dJ6_bitCount_0f7a4_39 ?_
    refine lv_topi (fun y4 ey4 => ?_)
    replace hf := onm ey4 hf
    refine lv_istore_n (lv' := [(0, .int y4)]) hx hb dJ6_bitCount_0f7a4_40 rfl hl (by decide) rfl (fun ls hl => ?_)
    refine lv_iload_n hx hb dJ6_bitCount_0f7a4_41 rfl (lv_at hl 0 rfl) ?_
    refine lv_iload_n hx hb dJ6_bitCount_0f7a4_42 rfl (lv_at hl 0 rfl) ?_
    refine lv_bipush (v := 16) hx hb dJ6_bitCount_0f7a4_43 (by decide) ?_
    refine lv_iushr (v := (UInt32.toInt32 (Int32.toUInt32 y4 >>> (Int32.toUInt32 16 &&& Int32.toUInt32 31)))) hx hb dJ6_bitCount_0f7a4_45 rfl ?_
    refine lv_iadd hx hb dJ6_bitCount_0f7a4_46 ?_
    refine lv_topi (fun y5 ey5 => ?_)
    replace hf := onm ey5 hf
    refine lv_istore_n (lv' := [(0, .int y5)]) hx hb dJ6_bitCount_0f7a4_47 rfl hl (by decide) rfl (fun ls hl => ?_)
    refine lv_iload_n hx hb dJ6_bitCount_0f7a4_48 rfl (lv_at hl 0 rfl) ?_
    refine lv_bipush (v := 63) hx hb dJ6_bitCount_0f7a4_49 (by decide) ?_
    refine lv_iand hx hb dJ6_bitCount_0f7a4_51 ?_
    have er := Option.some.inj hf
    exact rtI hx hb hr hS dJ6_bitCount_0f7a4_52 er hlocks
  exact go s.heap [] hP hS
noncomputable def f_X5_disorder (b_kinds : Nat → Int32) (b_sizes : Nat → Int32) (b_sorts : Nat → Int32) (b_numbers : Nat → Int64) (b_weights : Nat → Int32) (b_keySlots : Nat → Int32) (b_keyBys : Nat → Int32) (b_keyWays : Nat → Int32) (b_keyCount : Int32) (b_sheetSet : Int32) (r_lesser : Nat → Int32) (r_positions : Nat → Int32) (r_places : Nat → Int32) (r_longest : Nat → Int32) (r_length : Int32) (x1 : Int32) : Option (Int32 × (Nat → Int32) × (Nat → Int32) × (Nat → Int32) × (Nat → Int32) × Int32) := (f_X4_sortPlaces b_kinds b_sizes b_sorts b_numbers b_weights b_keySlots b_keyBys b_keyWays b_keyCount b_sheetSet r_lesser r_positions r_places r_length 15).bind (fun z1 => (f_X4_isFit z1.2.2.2).bind (fun z2 => if z2 = 0 then (some (((-1), z1.1, z1.2.1, z1.2.2.1, r_longest, z1.2.2.2))) else (if x1 = 3 then ((f_X4_alikePairs z1.1 z1.2.2.2).bind (fun z5 => some ((z5, z1.1, z1.2.1, z1.2.2.1, r_longest, z1.2.2.2)))) else (if x1 = 4 then ((f_X4_inversions z1.1 z1.2.2.2).bind (fun z7 => some ((z7, z1.1, z1.2.1, z1.2.2.1, r_longest, z1.2.2.2)))) else (if x1 = 5 then ((f_X4_sections z1.1 z1.2.2.2).bind (fun z9 => some ((z9, z1.1, z1.2.1, z1.2.2.1, r_longest, z1.2.2.2)))) else (if x1 = 6 then ((f_X4_longestSorted z1.1 r_longest z1.2.2.2).bind (fun z11 => some ((z11.1, z1.1, z1.2.1, z1.2.2.1, z11.2, z1.2.2.2)))) else (if x1 = 7 then ((f_X4_exchanges z1.2.1 z1.2.2.2).bind (fun z13 => some ((z13, z1.1, z1.2.1, z1.2.2.1, r_longest, z1.2.2.2)))) else ((f_X4_bubblePasses z1.1 z1.2.2.2).bind (fun z14 => some ((z14, z1.1, z1.2.1, z1.2.2.1, r_longest, z1.2.2.2)))))))))))
set_option maxHeartbeats 4000000 in
set_option maxRecDepth 100000 in
theorem c_X5_disorder (l : Launch) (D : va_G) (cI cJ cZ cQ : ClassId) (bs sz : Nat) (x : Nat → Nat) (b : Nat → Nat) (h : Nat → Nat) (k : Nat → Nat) (r : Nat → Nat) (q : Nat → Nat) (v : Nat → Nat) (x_random : Int32) (b_keyCount : Int32) (b_sheetSet : Int32) (b_handSort : Int32) (b_handNumber : Int64) (b_kinds : Nat → Int32) (b_sizes : Nat → Int32) (b_sorts : Nat → Int32) (b_numbers : Nat → Int64) (b_weights : Nat → Int32) (b_keySlots : Nat → Int32) (b_keyBys : Nat → Int32) (b_keyWays : Nat → Int32) (r_length : Int32) (r_lesser : Nat → Int32) (r_positions : Nat → Int32) (r_places : Nat → Int32) (r_longest : Nat → Int32) (x1 : Int32) (zr : Int32 × (Nat → Int32) × (Nat → Int32) × (Nat → Int32) × (Nat → Int32) × Int32) (hf : f_X5_disorder b_kinds b_sizes b_sorts b_numbers b_weights b_keySlots b_keyBys b_keyWays b_keyCount b_sheetSet r_lesser r_positions r_places r_longest r_length x1 = some zr) : Met l yX5_disorder wsX5_disorder { frames := 5, cells := 0, slots := 0, locals := 122 } (va_Pc [.ref (x 0), .int x1] (Pr D cI cJ cZ cQ bs sz [oX5 x b h k r q v x_random, oX0 b b_keyCount b_sheetSet b_handSort b_handNumber, aI cI (b 1) 6 b_kinds, aI cI (b 2) 6 b_sizes, aI cI (b 3) 72 b_sorts, aJ cJ (b 4) 72 b_numbers, aI cI (b 5) 8 b_weights, aI cI (b 6) 4 b_keySlots, aI cI (b 7) 4 b_keyBys, aI cI (b 8) 4 b_keyWays, oX4 r r_length, aI cI (r 1) 12 r_lesser, aI cI (r 2) 12 r_positions, aI cI (r 3) 12 r_places, aI cI (r 4) 12 r_longest])) (QwI D zr (fun u => [oX5 x b h k r q v x_random, oX0 b b_keyCount b_sheetSet b_handSort b_handNumber, aI cI (b 1) 6 b_kinds, aI cI (b 2) 6 b_sizes, aI cI (b 3) 72 b_sorts, aJ cJ (b 4) 72 b_numbers, aI cI (b 5) 8 b_weights, aI cI (b 6) 4 b_keySlots, aI cI (b 7) 4 b_keyBys, aI cI (b 8) 4 b_keyWays, oX4 r u.2.2.2.2, aI cI (r 1) 12 u.1, aI cI (r 2) 12 u.2.1, aI cI (r 3) 12 u.2.2.1, aI cI (r 4) 12 u.2.2.2.1]) (va_A [oX5 x b h k r q v x_random, oX0 b b_keyCount b_sheetSet b_handSort b_handNumber, aI cI (b 1) 6 b_kinds, aI cI (b 2) 6 b_sizes, aI cI (b 3) 72 b_sorts, aJ cJ (b 4) 72 b_numbers, aI cI (b 5) 8 b_weights, aI cI (b 6) 4 b_keySlots, aI cI (b 7) 4 b_keyBys, aI cI (b 8) 4 b_keyWays, oX4 r r_length, aI cI (r 1) 12 r_lesser, aI cI (r 2) 12 r_positions, aI cI (r 3) 12 r_places, aI cI (r 4) 12 r_longest] sz)) 0 0 (va_A [oX5 x b h k r q v x_random, oX0 b b_keyCount b_sheetSet b_handSort b_handNumber, aI cI (b 1) 6 b_kinds, aI cI (b 2) 6 b_sizes, aI cI (b 3) 72 b_sorts, aJ cJ (b 4) 72 b_numbers, aI cI (b 5) 8 b_weights, aI cI (b 6) 4 b_keySlots, aI cI (b 7) 4 b_keyBys, aI cI (b 8) 4 b_keyWays, oX4 r r_length, aI cI (r 1) 12 r_lesser, aI cI (r 2) 12 r_positions, aI cI (r 3) 12 r_places, aI cI (r 4) 12 r_longest] sz) := by
  refine stW (cc := cX5_disorder) (maxL := 2) (ret := (some .int)) (Qf := fun A => (QwI D zr (fun u => [oX5 x b h k r q v x_random, oX0 b b_keyCount b_sheetSet b_handSort b_handNumber, aI cI (b 1) 6 b_kinds, aI cI (b 2) 6 b_sizes, aI cI (b 3) 72 b_sorts, aJ cJ (b 4) 72 b_numbers, aI cI (b 5) 8 b_weights, aI cI (b 6) 4 b_keySlots, aI cI (b 7) 4 b_keyBys, aI cI (b 8) 4 b_keyWays, oX4 r u.2.2.2.2, aI cI (r 1) 12 u.1, aI cI (r 2) 12 u.2.1, aI cI (r 3) 12 u.2.2.1, aI cI (r 4) 12 u.2.2.2.1]) A)) (by decide +kernel) rfl (Nat.le_of_ble_eq_true rfl) ?_
  intro p e s m args below meth c A C0 hr hlocks hname hsz hP hD hA hAb hE ls hl
  obtain ⟨hx, hb, hml, hown, hts⟩ := id C0
  have hown : s.vm.findClass RX5 = some m.cls := hown
  obtain ⟨hK, hNW, -, tw, hZ, hT⟩ := id hE
  have hl : lv_has ls 2 [(0, .ref (x 0)), (1, .int x1)] := hl
  have hS : va_S A s.heap s.heap [] := va_S.rf
  have hI_X5 := (show ∀ w ∈ wsX50, w ∈ wsX5_disorder by decide +kernel)
  have gf33 := hts (.fieldLink RX5 33 "RowRanks" "ranking" "LRowRanks$Ranking;") (by decide +kernel)
  have gf10 := hts (.fieldLink RX5 10 "RowRanks" "bench" "LRowRanks$Bench;") (by decide +kernel)
  unfold f_X5_disorder at hf
  have go : ∀ (H : Heap) (locs : List Loc), va_P D vwCl [oX5 x b h k r q v x_random, oX0 b b_keyCount b_sheetSet b_handSort b_handNumber, aI cI (b 1) 6 b_kinds, aI cI (b 2) 6 b_sizes, aI cI (b 3) 72 b_sorts, aJ cJ (b 4) 72 b_numbers, aI cI (b 5) 8 b_weights, aI cI (b 6) 4 b_keySlots, aI cI (b 7) 4 b_keyBys, aI cI (b 8) 4 b_keyWays, oX4 r r_length, aI cI (r 1) 12 r_lesser, aI cI (r 2) 12 r_positions, aI cI (r 3) 12 r_places, aI cI (r 4) 12 r_longest] H → va_S A s.heap H locs → W p l e { frames := 5, cells := 0, slots := 0, locals := 122 } s m args below meth c H locs 0 0 (MQ below (QwI D zr (fun u => [oX5 x b h k r q v x_random, oX0 b b_keyCount b_sheetSet b_handSort b_handNumber, aI cI (b 1) 6 b_kinds, aI cI (b 2) 6 b_sizes, aI cI (b 3) 72 b_sorts, aJ cJ (b 4) 72 b_numbers, aI cI (b 5) 8 b_weights, aI cI (b 6) 4 b_keySlots, aI cI (b 7) 4 b_keyBys, aI cI (b 8) 4 b_keyWays, oX4 r u.2.2.2.2, aI cI (r 1) 12 u.1, aI cI (r 2) 12 u.2.1, aI cI (r 3) 12 u.2.2.1, aI cI (r 4) 12 u.2.2.2.1]) A) args s 0 0 A) (F0 m 0 ls []) := by
    intro H locs hP hS
    refine lv_aload_n hx hb dX5_disorder_0 rfl (lv_at hl 0 rfl) ?_
    refine va_get (D := D) (ci := 5) (v := .ref (r 0)) (C := RX5) (T := TX5) (N := 9) hx hb hts hI_X5 hown hK hP 0 rfl rfl 3 (by decide) gf33 (fun _ h9 => h9) rfl dX5_disorder_1 ?_
    refine lv_aload_n hx hb dX5_disorder_4 rfl (lv_at hl 0 rfl) ?_
    refine va_get (D := D) (ci := 5) (v := .ref (b 0)) (C := RX5) (T := TX5) (N := 9) hx hb hts hI_X5 hown hK hP 0 rfl rfl 0 (by decide) gf10 (fun _ h9 => h9) rfl dX5_disorder_5 ?_
    refine lv_bipush (v := 15) hx hb dX5_disorder_8 (by decide) ?_
    obtain ⟨z1, hz1, hf⟩ := obd hf
    refine kwV (runV (As := [.ref (b 0), .int 15]) (rest := []) C0 hE hAb hP ((hD.weaken (fun _ _ _ h9 => hAb _ h9)).addr rfl) hS [1, 2, 3, 4, 5, 6, 7, 8, 9, 10, 11, 12, 13] (wc := [oX0 b b_keyCount b_sheetSet b_handSort b_handNumber, aI cI (b 1) 6 b_kinds, aI cI (b 2) 6 b_sizes, aI cI (b 3) 72 b_sorts, aJ cJ (b 4) 72 b_numbers, aI cI (b 5) 8 b_weights, aI cI (b 6) 4 b_keySlots, aI cI (b 7) 4 b_keyBys, aI cI (b 8) 4 b_keyWays, oX4 r r_length, aI cI (r 1) 12 r_lesser, aI cI (r 2) 12 r_positions, aI cI (r 3) 12 r_places]) (by decide) rfl 10 rfl rfl (c_X4_sortPlaces l D cI cJ cZ cQ bs H.size b r b_keyCount b_sheetSet b_handSort b_handNumber b_kinds b_sizes b_sorts b_numbers b_weights b_keySlots b_keyBys b_keyWays r_length r_lesser r_positions r_places 15 z1 hz1) (cwV 2 hts gX5_disorder_X4_sortPlaces rfl rfl rfl (by decide +kernel) ⟨Nat.le_of_ble_eq_true rfl, Nat.le_of_ble_eq_true rfl⟩) rfl hl.1 rfl (Nat.le_of_ble_eq_true rfl) dX5_disorder_10 ⟨Nat.le_of_ble_eq_true rfl, Nat.le_of_ble_eq_true rfl⟩) hS hP (hD.addr rfl) hA [1, 2, 3, 4, 5, 6, 7, 8, 9, 10, 11, 12, 13] rfl rfl (ws' := [oX5 x b h k r q v x_random, oX0 b b_keyCount b_sheetSet b_handSort b_handNumber, aI cI (b 1) 6 b_kinds, aI cI (b 2) 6 b_sizes, aI cI (b 3) 72 b_sorts, aJ cJ (b 4) 72 b_numbers, aI cI (b 5) 8 b_weights, aI cI (b 6) 4 b_keySlots, aI cI (b 7) 4 b_keyBys, aI cI (b 8) 4 b_keyWays, oX4 r z1.2.2.2, aI cI (r 1) 12 z1.1, aI cI (r 2) 12 z1.2.1, aI cI (r 3) 12 z1.2.2.1, aI cI (r 4) 12 r_longest]) rfl rfl (fun H locs hP hS => ?_)
    refine lv_aload_n hx hb dX5_disorder_13 rfl (lv_at hl 0 rfl) ?_
    refine va_get (D := D) (ci := 5) (v := .ref (r 0)) (C := RX5) (T := TX5) (N := 9) hx hb hts hI_X5 hown hK hP 0 rfl rfl 3 (by decide) gf33 (fun _ h9 => h9) rfl dX5_disorder_14 ?_
    obtain ⟨z2, hz2, hf⟩ := obd hf
    refine kZ (runV (As := []) (rest := []) C0 hE hAb hP ((hD.weaken (fun _ _ _ h9 => hAb _ h9)).addr rfl) hS [10] (wc := [oX4 r z1.2.2.2]) (by decide) rfl 10 rfl rfl (c_X4_isFit l D cI cJ cZ cQ bs H.size r z1.2.2.2 z2 hz2) (cwV 0 hts gX5_disorder_X4_isFit rfl rfl rfl (by decide +kernel) ⟨Nat.le_of_ble_eq_true rfl, Nat.le_of_ble_eq_true rfl⟩) rfl hl.1 rfl (Nat.le_of_ble_eq_true rfl) dX5_disorder_17 ⟨Nat.le_of_ble_eq_true rfl, Nat.le_of_ble_eq_true rfl⟩) hS hP (fun bz2 H locs hP hS => ?_)
    refine lv_if_ne (tgt := 25) hx hb dX5_disorder_20 (by decide) (fun c3 => ?_) (fun c3 => ?_)
    · replace hf := oel c3 hf
      refine lv_iload_n hx hb dX5_disorder_25 rfl (lv_at hl 1 rfl) ?_
      by_cases c4 : x1 = 3
      · replace hf := oif c4 hf
        refine cgI c4 ?_
        refine lv_tableIn (off := 34) (tgt := 60) hx hb dX5_disorder_26 (by decide) (by decide) (by decide +kernel) (by decide) ?_
        refine lv_aload_n hx hb dX5_disorder_60 rfl (lv_at hl 0 rfl) ?_
        refine va_get (D := D) (ci := 5) (v := .ref (r 0)) (C := RX5) (T := TX5) (N := 9) hx hb hts hI_X5 hown hK hP 0 rfl rfl 3 (by decide) gf33 (fun _ h9 => h9) rfl dX5_disorder_61 ?_
        obtain ⟨z5, hz5, hf⟩ := obd hf
        refine kI (runV (As := []) (rest := []) C0 hE hAb hP ((hD.weaken (fun _ _ _ h9 => hAb _ h9)).addr rfl) hS [10, 11] (wc := [oX4 r z1.2.2.2, aI cI (r 1) 12 z1.1]) (by decide) rfl 10 rfl rfl (c_X4_alikePairs l D cI cJ cZ cQ bs H.size r z1.2.2.2 z1.1 z5 hz5) (cwV 0 hts gX5_disorder_X4_alikePairs rfl rfl rfl (by decide +kernel) ⟨Nat.le_of_ble_eq_true rfl, Nat.le_of_ble_eq_true rfl⟩) rfl hl.1 rfl (Nat.le_of_ble_eq_true rfl) dX5_disorder_64 ⟨Nat.le_of_ble_eq_true rfl, Nat.le_of_ble_eq_true rfl⟩) hS hP (fun H locs hP hS => ?_)
        have er := Option.some.inj hf
        exact rwI (wm := (fun u => [oX5 x b h k r q v x_random, oX0 b b_keyCount b_sheetSet b_handSort b_handNumber, aI cI (b 1) 6 b_kinds, aI cI (b 2) 6 b_sizes, aI cI (b 3) 72 b_sorts, aJ cJ (b 4) 72 b_numbers, aI cI (b 5) 8 b_weights, aI cI (b 6) 4 b_keySlots, aI cI (b 7) 4 b_keyBys, aI cI (b 8) 4 b_keyWays, oX4 r u.2.2.2.2, aI cI (r 1) 12 u.1, aI cI (r 2) 12 u.2.1, aI cI (r 3) 12 u.2.2.1, aI cI (r 4) 12 u.2.2.2.1])) hx hb hr hS dX5_disorder_67 hP er hlocks
      replace hf := oel c4 hf
      by_cases c6 : x1 = 4
      · replace hf := oif c6 hf
        refine cgI c6 ?_
        refine lv_tableIn (off := 42) (tgt := 68) hx hb dX5_disorder_26 (by decide) (by decide) (by decide +kernel) (by decide) ?_
        refine lv_aload_n hx hb dX5_disorder_68 rfl (lv_at hl 0 rfl) ?_
        refine va_get (D := D) (ci := 5) (v := .ref (r 0)) (C := RX5) (T := TX5) (N := 9) hx hb hts hI_X5 hown hK hP 0 rfl rfl 3 (by decide) gf33 (fun _ h9 => h9) rfl dX5_disorder_69 ?_
        obtain ⟨z7, hz7, hf⟩ := obd hf
        refine kI (runV (As := []) (rest := []) C0 hE hAb hP ((hD.weaken (fun _ _ _ h9 => hAb _ h9)).addr rfl) hS [10, 11] (wc := [oX4 r z1.2.2.2, aI cI (r 1) 12 z1.1]) (by decide) rfl 10 rfl rfl (c_X4_inversions l D cI cJ cZ cQ bs H.size r z1.2.2.2 z1.1 z7 hz7) (cwV 0 hts gX5_disorder_X4_inversions rfl rfl rfl (by decide +kernel) ⟨Nat.le_of_ble_eq_true rfl, Nat.le_of_ble_eq_true rfl⟩) rfl hl.1 rfl (Nat.le_of_ble_eq_true rfl) dX5_disorder_72 ⟨Nat.le_of_ble_eq_true rfl, Nat.le_of_ble_eq_true rfl⟩) hS hP (fun H locs hP hS => ?_)
        have er := Option.some.inj hf
        exact rwI (wm := (fun u => [oX5 x b h k r q v x_random, oX0 b b_keyCount b_sheetSet b_handSort b_handNumber, aI cI (b 1) 6 b_kinds, aI cI (b 2) 6 b_sizes, aI cI (b 3) 72 b_sorts, aJ cJ (b 4) 72 b_numbers, aI cI (b 5) 8 b_weights, aI cI (b 6) 4 b_keySlots, aI cI (b 7) 4 b_keyBys, aI cI (b 8) 4 b_keyWays, oX4 r u.2.2.2.2, aI cI (r 1) 12 u.1, aI cI (r 2) 12 u.2.1, aI cI (r 3) 12 u.2.2.1, aI cI (r 4) 12 u.2.2.2.1])) hx hb hr hS dX5_disorder_75 hP er hlocks
      replace hf := oel c6 hf
      by_cases c8 : x1 = 5
      · replace hf := oif c8 hf
        refine cgI c8 ?_
        refine lv_tableIn (off := 50) (tgt := 76) hx hb dX5_disorder_26 (by decide) (by decide) (by decide +kernel) (by decide) ?_
        refine lv_aload_n hx hb dX5_disorder_76 rfl (lv_at hl 0 rfl) ?_
        refine va_get (D := D) (ci := 5) (v := .ref (r 0)) (C := RX5) (T := TX5) (N := 9) hx hb hts hI_X5 hown hK hP 0 rfl rfl 3 (by decide) gf33 (fun _ h9 => h9) rfl dX5_disorder_77 ?_
        obtain ⟨z9, hz9, hf⟩ := obd hf
        refine kI (runV (As := []) (rest := []) C0 hE hAb hP ((hD.weaken (fun _ _ _ h9 => hAb _ h9)).addr rfl) hS [10, 11] (wc := [oX4 r z1.2.2.2, aI cI (r 1) 12 z1.1]) (by decide) rfl 10 rfl rfl (c_X4_sections l D cI cJ cZ cQ bs H.size r z1.2.2.2 z1.1 z9 hz9) (cwV 0 hts gX5_disorder_X4_sections rfl rfl rfl (by decide +kernel) ⟨Nat.le_of_ble_eq_true rfl, Nat.le_of_ble_eq_true rfl⟩) rfl hl.1 rfl (Nat.le_of_ble_eq_true rfl) dX5_disorder_80 ⟨Nat.le_of_ble_eq_true rfl, Nat.le_of_ble_eq_true rfl⟩) hS hP (fun H locs hP hS => ?_)
        have er := Option.some.inj hf
        exact rwI (wm := (fun u => [oX5 x b h k r q v x_random, oX0 b b_keyCount b_sheetSet b_handSort b_handNumber, aI cI (b 1) 6 b_kinds, aI cI (b 2) 6 b_sizes, aI cI (b 3) 72 b_sorts, aJ cJ (b 4) 72 b_numbers, aI cI (b 5) 8 b_weights, aI cI (b 6) 4 b_keySlots, aI cI (b 7) 4 b_keyBys, aI cI (b 8) 4 b_keyWays, oX4 r u.2.2.2.2, aI cI (r 1) 12 u.1, aI cI (r 2) 12 u.2.1, aI cI (r 3) 12 u.2.2.1, aI cI (r 4) 12 u.2.2.2.1])) hx hb hr hS dX5_disorder_83 hP er hlocks
      replace hf := oel c8 hf
      by_cases c10 : x1 = 6
      · replace hf := oif c10 hf
        refine cgI c10 ?_
        refine lv_tableIn (off := 58) (tgt := 84) hx hb dX5_disorder_26 (by decide) (by decide) (by decide +kernel) (by decide) ?_
        refine lv_aload_n hx hb dX5_disorder_84 rfl (lv_at hl 0 rfl) ?_
        refine va_get (D := D) (ci := 5) (v := .ref (r 0)) (C := RX5) (T := TX5) (N := 9) hx hb hts hI_X5 hown hK hP 0 rfl rfl 3 (by decide) gf33 (fun _ h9 => h9) rfl dX5_disorder_85 ?_
        obtain ⟨z11, hz11, hf⟩ := obd hf
        refine kwI (runV (As := []) (rest := []) C0 hE hAb hP ((hD.weaken (fun _ _ _ h9 => hAb _ h9)).addr rfl) hS [10, 11, 14] (wc := [oX4 r z1.2.2.2, aI cI (r 1) 12 z1.1, aI cI (r 4) 12 r_longest]) (by decide) rfl 10 rfl rfl (c_X4_longestSorted l D cI cJ cZ cQ bs H.size r z1.2.2.2 z1.1 r_longest z11 hz11) (cwV 0 hts gX5_disorder_X4_longestSorted rfl rfl rfl (by decide +kernel) ⟨Nat.le_of_ble_eq_true rfl, Nat.le_of_ble_eq_true rfl⟩) rfl hl.1 rfl (Nat.le_of_ble_eq_true rfl) dX5_disorder_88 ⟨Nat.le_of_ble_eq_true rfl, Nat.le_of_ble_eq_true rfl⟩) hS hP (hD.addr rfl) hA [10, 11, 14] rfl rfl (ws' := [oX5 x b h k r q v x_random, oX0 b b_keyCount b_sheetSet b_handSort b_handNumber, aI cI (b 1) 6 b_kinds, aI cI (b 2) 6 b_sizes, aI cI (b 3) 72 b_sorts, aJ cJ (b 4) 72 b_numbers, aI cI (b 5) 8 b_weights, aI cI (b 6) 4 b_keySlots, aI cI (b 7) 4 b_keyBys, aI cI (b 8) 4 b_keyWays, oX4 r z1.2.2.2, aI cI (r 1) 12 z1.1, aI cI (r 2) 12 z1.2.1, aI cI (r 3) 12 z1.2.2.1, aI cI (r 4) 12 z11.2]) rfl rfl (fun H locs hP hS => ?_)
        have er := Option.some.inj hf
        exact rwI (wm := (fun u => [oX5 x b h k r q v x_random, oX0 b b_keyCount b_sheetSet b_handSort b_handNumber, aI cI (b 1) 6 b_kinds, aI cI (b 2) 6 b_sizes, aI cI (b 3) 72 b_sorts, aJ cJ (b 4) 72 b_numbers, aI cI (b 5) 8 b_weights, aI cI (b 6) 4 b_keySlots, aI cI (b 7) 4 b_keyBys, aI cI (b 8) 4 b_keyWays, oX4 r u.2.2.2.2, aI cI (r 1) 12 u.1, aI cI (r 2) 12 u.2.1, aI cI (r 3) 12 u.2.2.1, aI cI (r 4) 12 u.2.2.2.1])) hx hb hr hS dX5_disorder_91 hP er hlocks
      replace hf := oel c10 hf
      by_cases c12 : x1 = 7
      · replace hf := oif c12 hf
        refine cgI c12 ?_
        refine lv_tableIn (off := 66) (tgt := 92) hx hb dX5_disorder_26 (by decide) (by decide) (by decide +kernel) (by decide) ?_
        refine lv_aload_n hx hb dX5_disorder_92 rfl (lv_at hl 0 rfl) ?_
        refine va_get (D := D) (ci := 5) (v := .ref (r 0)) (C := RX5) (T := TX5) (N := 9) hx hb hts hI_X5 hown hK hP 0 rfl rfl 3 (by decide) gf33 (fun _ h9 => h9) rfl dX5_disorder_93 ?_
        obtain ⟨z13, hz13, hf⟩ := obd hf
        refine kI (runV (As := []) (rest := []) C0 hE hAb hP ((hD.weaken (fun _ _ _ h9 => hAb _ h9)).addr rfl) hS [10, 12] (wc := [oX4 r z1.2.2.2, aI cI (r 2) 12 z1.2.1]) (by decide) rfl 10 rfl rfl (c_X4_exchanges l D cI cJ cZ cQ bs H.size r z1.2.2.2 z1.2.1 z13 hz13) (cwV 0 hts gX5_disorder_X4_exchanges rfl rfl rfl (by decide +kernel) ⟨Nat.le_of_ble_eq_true rfl, Nat.le_of_ble_eq_true rfl⟩) rfl hl.1 rfl (Nat.le_of_ble_eq_true rfl) dX5_disorder_96 ⟨Nat.le_of_ble_eq_true rfl, Nat.le_of_ble_eq_true rfl⟩) hS hP (fun H locs hP hS => ?_)
        have er := Option.some.inj hf
        exact rwI (wm := (fun u => [oX5 x b h k r q v x_random, oX0 b b_keyCount b_sheetSet b_handSort b_handNumber, aI cI (b 1) 6 b_kinds, aI cI (b 2) 6 b_sizes, aI cI (b 3) 72 b_sorts, aJ cJ (b 4) 72 b_numbers, aI cI (b 5) 8 b_weights, aI cI (b 6) 4 b_keySlots, aI cI (b 7) 4 b_keyBys, aI cI (b 8) 4 b_keyWays, oX4 r u.2.2.2.2, aI cI (r 1) 12 u.1, aI cI (r 2) 12 u.2.1, aI cI (r 3) 12 u.2.2.1, aI cI (r 4) 12 u.2.2.2.1])) hx hb hr hS dX5_disorder_99 hP er hlocks
      replace hf := oel c12 hf
      refine lv_tableOut (tgt := 100) hx hb dX5_disorder_26 (by have a0 := lv_neT c4 (a := 3) (by decide); have a1 := lv_neT c6 (a := 4) (by decide); have a2 := lv_neT c8 (a := 5) (by decide); have a3 := lv_neT c10 (a := 6) (by decide); have a4 := lv_neT c12 (a := 7) (by decide); omega) (by decide) ?_
      refine lv_aload_n hx hb dX5_disorder_100 rfl (lv_at hl 0 rfl) ?_
      refine va_get (D := D) (ci := 5) (v := .ref (r 0)) (C := RX5) (T := TX5) (N := 9) hx hb hts hI_X5 hown hK hP 0 rfl rfl 3 (by decide) gf33 (fun _ h9 => h9) rfl dX5_disorder_101 ?_
      obtain ⟨z14, hz14, hf⟩ := obd hf
      refine kI (runV (As := []) (rest := []) C0 hE hAb hP ((hD.weaken (fun _ _ _ h9 => hAb _ h9)).addr rfl) hS [10, 11] (wc := [oX4 r z1.2.2.2, aI cI (r 1) 12 z1.1]) (by decide) rfl 10 rfl rfl (c_X4_bubblePasses l D cI cJ cZ cQ bs H.size r z1.2.2.2 z1.1 z14 hz14) (cwV 0 hts gX5_disorder_X4_bubblePasses rfl rfl rfl (by decide +kernel) ⟨Nat.le_of_ble_eq_true rfl, Nat.le_of_ble_eq_true rfl⟩) rfl hl.1 rfl (Nat.le_of_ble_eq_true rfl) dX5_disorder_104 ⟨Nat.le_of_ble_eq_true rfl, Nat.le_of_ble_eq_true rfl⟩) hS hP (fun H locs hP hS => ?_)
      have er := Option.some.inj hf
      exact rwI (wm := (fun u => [oX5 x b h k r q v x_random, oX0 b b_keyCount b_sheetSet b_handSort b_handNumber, aI cI (b 1) 6 b_kinds, aI cI (b 2) 6 b_sizes, aI cI (b 3) 72 b_sorts, aJ cJ (b 4) 72 b_numbers, aI cI (b 5) 8 b_weights, aI cI (b 6) 4 b_keySlots, aI cI (b 7) 4 b_keyBys, aI cI (b 8) 4 b_keyWays, oX4 r u.2.2.2.2, aI cI (r 1) 12 u.1, aI cI (r 2) 12 u.2.1, aI cI (r 3) 12 u.2.2.1, aI cI (r 4) 12 u.2.2.2.1])) hx hb hr hS dX5_disorder_107 hP er hlocks
    · replace hf := oif c3 hf
      refine lv_iconst (v := (-1)) hx hb dX5_disorder_23 (by decide) ?_
      have er := Option.some.inj hf
      exact rwI (wm := (fun u => [oX5 x b h k r q v x_random, oX0 b b_keyCount b_sheetSet b_handSort b_handNumber, aI cI (b 1) 6 b_kinds, aI cI (b 2) 6 b_sizes, aI cI (b 3) 72 b_sorts, aJ cJ (b 4) 72 b_numbers, aI cI (b 5) 8 b_weights, aI cI (b 6) 4 b_keySlots, aI cI (b 7) 4 b_keyBys, aI cI (b 8) 4 b_keyWays, oX4 r u.2.2.2.2, aI cI (r 1) 12 u.1, aI cI (r 2) 12 u.2.1, aI cI (r 3) 12 u.2.2.1, aI cI (r 4) 12 u.2.2.2.1])) hx hb hr hS dX5_disorder_24 hP er hlocks
  exact go s.heap [] hP hS
noncomputable def L_X5_keysThatMatter_29 (b_kinds : Nat → Int32) (b_sizes : Nat → Int32) (b_sorts : Nat → Int32) (b_numbers : Nat → Int64) (b_weights : Nat → Int32) (b_keySlots : Nat → Int32) (b_keyBys : Nat → Int32) (b_keyWays : Nat → Int32) (b_keyCount : Int32) (b_sheetSet : Int32) (r_positions : Nat → Int32) (r_length : Int32) : Nat → Int32 → Int32 → (Nat → Int32) → (Nat → Int32) → (Nat → Int32) → Int32 → Option (Int32 × (Nat → Int32) × (Nat → Int32) × (Nat → Int32) × Int32)
  | 0, _, _, _, _, _, _ => none
  | n + 1, v1, v2, q_lesser, q_positions, q_places, q_length => if b_keyCount ≤ v2 then (some ((v1, q_lesser, q_positions, q_places, q_length))) else ((f_X4_sortPlaces b_kinds b_sizes b_sorts b_numbers b_weights b_keySlots b_keyBys b_keyWays b_keyCount b_sheetSet q_lesser q_positions q_places q_length ((15 : Int32) &&& (((1 : Int32) <<< (v2 &&& 31)) ^^^ ((-1) : Int32)))).bind (fun z5 => (f_X4_hasOrderOf r_positions r_length z5.2.1 z5.2.2.2).bind (fun z6 => if z6 = 0 then ((some ((v1 ||| ((1 : Int32) <<< (v2 &&& 31))) : Int32)).bind (fun y9 => (some (v2 + 1 : Int32)).bind (fun y10 => L_X5_keysThatMatter_29 b_kinds b_sizes b_sorts b_numbers b_weights b_keySlots b_keyBys b_keyWays b_keyCount b_sheetSet r_positions r_length n y9 y10 z5.1 z5.2.1 z5.2.2.1 z5.2.2.2))) else ((some (v2 + 1 : Int32)).bind (fun y8 => L_X5_keysThatMatter_29 b_kinds b_sizes b_sorts b_numbers b_weights b_keySlots b_keyBys b_keyWays b_keyCount b_sheetSet r_positions r_length n v1 y8 z5.1 z5.2.1 z5.2.2.1 z5.2.2.2)))))
noncomputable def f_X5_keysThatMatter (b_kinds : Nat → Int32) (b_sizes : Nat → Int32) (b_sorts : Nat → Int32) (b_numbers : Nat → Int64) (b_weights : Nat → Int32) (b_keySlots : Nat → Int32) (b_keyBys : Nat → Int32) (b_keyWays : Nat → Int32) (b_keyCount : Int32) (b_sheetSet : Int32) (r_lesser : Nat → Int32) (r_positions : Nat → Int32) (r_places : Nat → Int32) (r_length : Int32) (q_lesser : Nat → Int32) (q_positions : Nat → Int32) (q_places : Nat → Int32) (q_length : Int32) : Option (Int32 × (Nat → Int32) × (Nat → Int32) × (Nat → Int32) × Int32 × (Nat → Int32) × (Nat → Int32) × (Nat → Int32) × Int32) := (f_X4_sortPlaces b_kinds b_sizes b_sorts b_numbers b_weights b_keySlots b_keyBys b_keyWays b_keyCount b_sheetSet r_lesser r_positions r_places r_length 15).bind (fun z1 => (f_X4_isFit z1.2.2.2).bind (fun z2 => if z2 = 0 then (some (((-1), z1.1, z1.2.1, z1.2.2.1, z1.2.2.2, q_lesser, q_positions, q_places, q_length))) else ((L_X5_keysThatMatter_29 b_kinds b_sizes b_sorts b_numbers b_weights b_keySlots b_keyBys b_keyWays b_keyCount b_sheetSet z1.2.1 z1.2.2.2 4000 0 0 q_lesser q_positions q_places q_length).bind (fun z11 => some ((z11.1, z1.1, z1.2.1, z1.2.2.1, z1.2.2.2, z11.2.1, z11.2.2.1, z11.2.2.2.1, z11.2.2.2.2))))))
set_option maxHeartbeats 4000000 in
set_option maxRecDepth 100000 in
theorem c_X5_keysThatMatter (l : Launch) (D : va_G) (cI cJ cZ cQ : ClassId) (bs sz : Nat) (x : Nat → Nat) (b : Nat → Nat) (h : Nat → Nat) (k : Nat → Nat) (r : Nat → Nat) (q : Nat → Nat) (v : Nat → Nat) (x_random : Int32) (b_keyCount : Int32) (b_sheetSet : Int32) (b_handSort : Int32) (b_handNumber : Int64) (b_kinds : Nat → Int32) (b_sizes : Nat → Int32) (b_sorts : Nat → Int32) (b_numbers : Nat → Int64) (b_weights : Nat → Int32) (b_keySlots : Nat → Int32) (b_keyBys : Nat → Int32) (b_keyWays : Nat → Int32) (r_length : Int32) (r_lesser : Nat → Int32) (r_positions : Nat → Int32) (r_places : Nat → Int32) (q_length : Int32) (q_lesser : Nat → Int32) (q_positions : Nat → Int32) (q_places : Nat → Int32) (zr : Int32 × (Nat → Int32) × (Nat → Int32) × (Nat → Int32) × Int32 × (Nat → Int32) × (Nat → Int32) × (Nat → Int32) × Int32) (hf : f_X5_keysThatMatter b_kinds b_sizes b_sorts b_numbers b_weights b_keySlots b_keyBys b_keyWays b_keyCount b_sheetSet r_lesser r_positions r_places r_length q_lesser q_positions q_places q_length = some zr) : Met l yX5_keysThatMatter wsX5_keysThatMatter { frames := 5, cells := 0, slots := 0, locals := 122 } (va_Pc [.ref (x 0)] (Pr D cI cJ cZ cQ bs sz [oX5 x b h k r q v x_random, oX0 b b_keyCount b_sheetSet b_handSort b_handNumber, aI cI (b 1) 6 b_kinds, aI cI (b 2) 6 b_sizes, aI cI (b 3) 72 b_sorts, aJ cJ (b 4) 72 b_numbers, aI cI (b 5) 8 b_weights, aI cI (b 6) 4 b_keySlots, aI cI (b 7) 4 b_keyBys, aI cI (b 8) 4 b_keyWays, oX4 r r_length, aI cI (r 1) 12 r_lesser, aI cI (r 2) 12 r_positions, aI cI (r 3) 12 r_places, oX4 q q_length, aI cI (q 1) 12 q_lesser, aI cI (q 2) 12 q_positions, aI cI (q 3) 12 q_places])) (QwI D zr (fun u => [oX5 x b h k r q v x_random, oX0 b b_keyCount b_sheetSet b_handSort b_handNumber, aI cI (b 1) 6 b_kinds, aI cI (b 2) 6 b_sizes, aI cI (b 3) 72 b_sorts, aJ cJ (b 4) 72 b_numbers, aI cI (b 5) 8 b_weights, aI cI (b 6) 4 b_keySlots, aI cI (b 7) 4 b_keyBys, aI cI (b 8) 4 b_keyWays, oX4 r u.2.2.2.1, aI cI (r 1) 12 u.1, aI cI (r 2) 12 u.2.1, aI cI (r 3) 12 u.2.2.1, oX4 q u.2.2.2.2.2.2.2, aI cI (q 1) 12 u.2.2.2.2.1, aI cI (q 2) 12 u.2.2.2.2.2.1, aI cI (q 3) 12 u.2.2.2.2.2.2.1]) (va_A [oX5 x b h k r q v x_random, oX0 b b_keyCount b_sheetSet b_handSort b_handNumber, aI cI (b 1) 6 b_kinds, aI cI (b 2) 6 b_sizes, aI cI (b 3) 72 b_sorts, aJ cJ (b 4) 72 b_numbers, aI cI (b 5) 8 b_weights, aI cI (b 6) 4 b_keySlots, aI cI (b 7) 4 b_keyBys, aI cI (b 8) 4 b_keyWays, oX4 r r_length, aI cI (r 1) 12 r_lesser, aI cI (r 2) 12 r_positions, aI cI (r 3) 12 r_places, oX4 q q_length, aI cI (q 1) 12 q_lesser, aI cI (q 2) 12 q_positions, aI cI (q 3) 12 q_places] sz)) 0 0 (va_A [oX5 x b h k r q v x_random, oX0 b b_keyCount b_sheetSet b_handSort b_handNumber, aI cI (b 1) 6 b_kinds, aI cI (b 2) 6 b_sizes, aI cI (b 3) 72 b_sorts, aJ cJ (b 4) 72 b_numbers, aI cI (b 5) 8 b_weights, aI cI (b 6) 4 b_keySlots, aI cI (b 7) 4 b_keyBys, aI cI (b 8) 4 b_keyWays, oX4 r r_length, aI cI (r 1) 12 r_lesser, aI cI (r 2) 12 r_positions, aI cI (r 3) 12 r_places, oX4 q q_length, aI cI (q 1) 12 q_lesser, aI cI (q 2) 12 q_positions, aI cI (q 3) 12 q_places] sz) := by
  refine stW (cc := cX5_keysThatMatter) (maxL := 3) (ret := (some .int)) (Qf := fun A => (QwI D zr (fun u => [oX5 x b h k r q v x_random, oX0 b b_keyCount b_sheetSet b_handSort b_handNumber, aI cI (b 1) 6 b_kinds, aI cI (b 2) 6 b_sizes, aI cI (b 3) 72 b_sorts, aJ cJ (b 4) 72 b_numbers, aI cI (b 5) 8 b_weights, aI cI (b 6) 4 b_keySlots, aI cI (b 7) 4 b_keyBys, aI cI (b 8) 4 b_keyWays, oX4 r u.2.2.2.1, aI cI (r 1) 12 u.1, aI cI (r 2) 12 u.2.1, aI cI (r 3) 12 u.2.2.1, oX4 q u.2.2.2.2.2.2.2, aI cI (q 1) 12 u.2.2.2.2.1, aI cI (q 2) 12 u.2.2.2.2.2.1, aI cI (q 3) 12 u.2.2.2.2.2.2.1]) A)) (by decide +kernel) rfl (Nat.le_of_ble_eq_true rfl) ?_
  intro p e s m args below meth c A C0 hr hlocks hname hsz hP hD hA hAb hE ls hl
  obtain ⟨hx, hb, hml, hown, hts⟩ := id C0
  have hown : s.vm.findClass RX5 = some m.cls := hown
  obtain ⟨hK, hNW, -, tw, hZ, hT⟩ := id hE
  have hl : lv_has ls 3 [(0, .ref (x 0))] := hl
  have hS : va_S A s.heap s.heap [] := va_S.rf
  have hI_X5 := (show ∀ w ∈ wsX50, w ∈ wsX5_keysThatMatter by decide +kernel)
  have gf33 := hts (.fieldLink RX5 33 "RowRanks" "ranking" "LRowRanks$Ranking;") (by decide +kernel)
  have gf10 := hts (.fieldLink RX5 10 "RowRanks" "bench" "LRowRanks$Bench;") (by decide +kernel)
  have hI_X0 := (show ∀ w ∈ wsX00, w ∈ wsX5_keysThatMatter by decide +kernel)
  have gf59 := hNW (.fieldLinkNest RX5 59 RX0 "keyCount" "I" RX5) (by decide +kernel)
  have gf37 := hts (.fieldLink RX5 37 "RowRanks" "otherRanking" "LRowRanks$Ranking;") (by decide +kernel)
  have W29 : ∀ (n : Nat) (v1 : Int32) (v2 : Int32) (r_lesser : Nat → Int32) (r_positions : Nat → Int32) (r_places : Nat → Int32) (r_length : Int32) (q_lesser : Nat → Int32) (q_positions : Nat → Int32) (q_places : Nat → Int32) (q_length : Int32) (H : Heap) (locs : List Loc) (ls : Array Slot) (z : Int32 × (Nat → Int32) × (Nat → Int32) × (Nat → Int32) × Int32), va_P D vwCl [oX5 x b h k r q v x_random, oX0 b b_keyCount b_sheetSet b_handSort b_handNumber, aI cI (b 1) 6 b_kinds, aI cI (b 2) 6 b_sizes, aI cI (b 3) 72 b_sorts, aJ cJ (b 4) 72 b_numbers, aI cI (b 5) 8 b_weights, aI cI (b 6) 4 b_keySlots, aI cI (b 7) 4 b_keyBys, aI cI (b 8) 4 b_keyWays, oX4 r r_length, aI cI (r 1) 12 r_lesser, aI cI (r 2) 12 r_positions, aI cI (r 3) 12 r_places, oX4 q q_length, aI cI (q 1) 12 q_lesser, aI cI (q 2) 12 q_positions, aI cI (q 3) 12 q_places] H → va_S A s.heap H locs → lv_has ls 3 [(0, .ref (x 0)), (1, .int v1), (2, .int v2)] → L_X5_keysThatMatter_29 b_kinds b_sizes b_sorts b_numbers b_weights b_keySlots b_keyBys b_keyWays b_keyCount b_sheetSet r_positions r_length n v1 v2 q_lesser q_positions q_places q_length = some z → (∀ (H : Heap) (locs : List Loc) (ls : Array Slot), va_P D vwCl [oX5 x b h k r q v x_random, oX0 b b_keyCount b_sheetSet b_handSort b_handNumber, aI cI (b 1) 6 b_kinds, aI cI (b 2) 6 b_sizes, aI cI (b 3) 72 b_sorts, aJ cJ (b 4) 72 b_numbers, aI cI (b 5) 8 b_weights, aI cI (b 6) 4 b_keySlots, aI cI (b 7) 4 b_keyBys, aI cI (b 8) 4 b_keyWays, oX4 r r_length, aI cI (r 1) 12 r_lesser, aI cI (r 2) 12 r_positions, aI cI (r 3) 12 r_places, oX4 q z.2.2.2.2, aI cI (q 1) 12 z.2.1, aI cI (q 2) 12 z.2.2.1, aI cI (q 3) 12 z.2.2.2.1] H → va_S A s.heap H locs → lv_has ls 3 [(1, .int z.1)] → W p l e { frames := 5, cells := 0, slots := 0, locals := 122 } s m args below meth c H locs 0 0 (MQ below (QwI D zr (fun u => [oX5 x b h k r q v x_random, oX0 b b_keyCount b_sheetSet b_handSort b_handNumber, aI cI (b 1) 6 b_kinds, aI cI (b 2) 6 b_sizes, aI cI (b 3) 72 b_sorts, aJ cJ (b 4) 72 b_numbers, aI cI (b 5) 8 b_weights, aI cI (b 6) 4 b_keySlots, aI cI (b 7) 4 b_keyBys, aI cI (b 8) 4 b_keyWays, oX4 r u.2.2.2.1, aI cI (r 1) 12 u.1, aI cI (r 2) 12 u.2.1, aI cI (r 3) 12 u.2.2.1, oX4 q u.2.2.2.2.2.2.2, aI cI (q 1) 12 u.2.2.2.2.1, aI cI (q 2) 12 u.2.2.2.2.2.1, aI cI (q 3) 12 u.2.2.2.2.2.2.1]) A) args s 0 0 A) (F0 m 85 ls [])) → W p l e { frames := 5, cells := 0, slots := 0, locals := 122 } s m args below meth c H locs 0 0 (MQ below (QwI D zr (fun u => [oX5 x b h k r q v x_random, oX0 b b_keyCount b_sheetSet b_handSort b_handNumber, aI cI (b 1) 6 b_kinds, aI cI (b 2) 6 b_sizes, aI cI (b 3) 72 b_sorts, aJ cJ (b 4) 72 b_numbers, aI cI (b 5) 8 b_weights, aI cI (b 6) 4 b_keySlots, aI cI (b 7) 4 b_keyBys, aI cI (b 8) 4 b_keyWays, oX4 r u.2.2.2.1, aI cI (r 1) 12 u.1, aI cI (r 2) 12 u.2.1, aI cI (r 3) 12 u.2.2.1, oX4 q u.2.2.2.2.2.2.2, aI cI (q 1) 12 u.2.2.2.2.1, aI cI (q 2) 12 u.2.2.2.2.2.1, aI cI (q 3) 12 u.2.2.2.2.2.2.1]) A) args s 0 0 A) (F0 m 29 ls []) := by
    intro n
    induction n with
    | zero =>
      intro v1 v2 r_lesser r_positions r_places r_length q_lesser q_positions q_places q_length H locs ls z hP hS hl hf
      exact absurd (show (none : Option (Int32 × (Nat → Int32) × (Nat → Int32) × (Nat → Int32) × Int32)) = some z from hf) (fun h => by cases h)
    | succ n ih =>
      intro v1 v2 r_lesser r_positions r_places r_length q_lesser q_positions q_places q_length H locs ls z hP hS hl hf K
      rw [L_X5_keysThatMatter_29] at hf
      refine lv_iload_n hx hb dX5_keysThatMatter_29 rfl (lv_at hl 2 rfl) ?_
      refine lv_aload_n hx hb dX5_keysThatMatter_30 rfl (lv_at hl 0 rfl) ?_
      refine va_get (D := D) (ci := 5) (v := .ref (b 0)) (C := RX5) (T := TX5) (N := 9) hx hb hts hI_X5 hown hK hP 0 rfl rfl 0 (by decide) gf10 (fun _ h9 => h9) rfl dX5_keysThatMatter_31 ?_
      refine va_getN (D := D) (ci := 0) (v := .int b_keyCount) (C := RX0) (T := TX0) (N := 12) hx hb hts hI_X0 hown hK hP 1 rfl rfl 8 (by decide) (va_Nw.use rfl gf59) (fun _ h9 => h9) rfl dX5_keysThatMatter_34 ?_
      refine lv_icmp_ge (tgt := 85) hx hb dX5_keysThatMatter_37 (by decide) (fun c4 => ?_) (fun c4 => ?_)
      · replace hf := oif c4 hf
        have hf := Option.some.inj hf
        subst hf
        exact K H locs ls hP hS (lv_sub hl [1] rfl)
      · replace hf := oel c4 hf
        refine lv_aload_n hx hb dX5_keysThatMatter_40 rfl (lv_at hl 0 rfl) ?_
        refine va_get (D := D) (ci := 5) (v := .ref (q 0)) (C := RX5) (T := TX5) (N := 9) hx hb hts hI_X5 hown hK hP 0 rfl rfl 4 (by decide) gf37 (fun _ h9 => h9) rfl dX5_keysThatMatter_41 ?_
        refine lv_aload_n hx hb dX5_keysThatMatter_44 rfl (lv_at hl 0 rfl) ?_
        refine va_get (D := D) (ci := 5) (v := .ref (b 0)) (C := RX5) (T := TX5) (N := 9) hx hb hts hI_X5 hown hK hP 0 rfl rfl 0 (by decide) gf10 (fun _ h9 => h9) rfl dX5_keysThatMatter_45 ?_
        refine lv_bipush (v := 15) hx hb dX5_keysThatMatter_48 (by decide) ?_
        refine lv_iconst (v := 1) hx hb dX5_keysThatMatter_50 (by decide) ?_
        refine lv_iload_n hx hb dX5_keysThatMatter_51 rfl (lv_at hl 2 rfl) ?_
        refine lv_ishl hx hb dX5_keysThatMatter_52 ?_
        refine lv_iconst (v := (-1)) hx hb dX5_keysThatMatter_53 (by decide) ?_
        refine lv_ixor hx hb dX5_keysThatMatter_54 ?_
        refine lv_iand hx hb dX5_keysThatMatter_55 ?_
        obtain ⟨z5, hz5, hf⟩ := obd hf
        refine kwV (runV (As := [.ref (b 0), .int ((15 : Int32) &&& (((1 : Int32) <<< (v2 &&& 31)) ^^^ ((-1) : Int32)))]) (rest := []) C0 hE hAb hP ((hD.weaken (fun _ _ _ h9 => hAb _ h9)).addr rfl) hS [1, 2, 3, 4, 5, 6, 7, 8, 9, 14, 15, 16, 17] (wc := [oX0 b b_keyCount b_sheetSet b_handSort b_handNumber, aI cI (b 1) 6 b_kinds, aI cI (b 2) 6 b_sizes, aI cI (b 3) 72 b_sorts, aJ cJ (b 4) 72 b_numbers, aI cI (b 5) 8 b_weights, aI cI (b 6) 4 b_keySlots, aI cI (b 7) 4 b_keyBys, aI cI (b 8) 4 b_keyWays, oX4 q q_length, aI cI (q 1) 12 q_lesser, aI cI (q 2) 12 q_positions, aI cI (q 3) 12 q_places]) (by decide) rfl 14 rfl rfl (c_X4_sortPlaces l D cI cJ cZ cQ bs H.size b q b_keyCount b_sheetSet b_handSort b_handNumber b_kinds b_sizes b_sorts b_numbers b_weights b_keySlots b_keyBys b_keyWays q_length q_lesser q_positions q_places ((15 : Int32) &&& (((1 : Int32) <<< (v2 &&& 31)) ^^^ ((-1) : Int32))) z5 hz5) (cwV 2 hts gX5_keysThatMatter_X4_sortPlaces rfl rfl rfl (by decide +kernel) ⟨Nat.le_of_ble_eq_true rfl, Nat.le_of_ble_eq_true rfl⟩) rfl hl.1 rfl (Nat.le_of_ble_eq_true rfl) dX5_keysThatMatter_56 ⟨Nat.le_of_ble_eq_true rfl, Nat.le_of_ble_eq_true rfl⟩) hS hP (hD.addr rfl) hA [1, 2, 3, 4, 5, 6, 7, 8, 9, 14, 15, 16, 17] rfl rfl (ws' := [oX5 x b h k r q v x_random, oX0 b b_keyCount b_sheetSet b_handSort b_handNumber, aI cI (b 1) 6 b_kinds, aI cI (b 2) 6 b_sizes, aI cI (b 3) 72 b_sorts, aJ cJ (b 4) 72 b_numbers, aI cI (b 5) 8 b_weights, aI cI (b 6) 4 b_keySlots, aI cI (b 7) 4 b_keyBys, aI cI (b 8) 4 b_keyWays, oX4 r r_length, aI cI (r 1) 12 r_lesser, aI cI (r 2) 12 r_positions, aI cI (r 3) 12 r_places, oX4 q z5.2.2.2, aI cI (q 1) 12 z5.1, aI cI (q 2) 12 z5.2.1, aI cI (q 3) 12 z5.2.2.1]) rfl rfl (fun H locs hP hS => ?_)
        refine lv_aload_n hx hb dX5_keysThatMatter_59 rfl (lv_at hl 0 rfl) ?_
        refine va_get (D := D) (ci := 5) (v := .ref (r 0)) (C := RX5) (T := TX5) (N := 9) hx hb hts hI_X5 hown hK hP 0 rfl rfl 3 (by decide) gf33 (fun _ h9 => h9) rfl dX5_keysThatMatter_60 ?_
        refine lv_aload_n hx hb dX5_keysThatMatter_63 rfl (lv_at hl 0 rfl) ?_
        refine va_get (D := D) (ci := 5) (v := .ref (q 0)) (C := RX5) (T := TX5) (N := 9) hx hb hts hI_X5 hown hK hP 0 rfl rfl 4 (by decide) gf37 (fun _ h9 => h9) rfl dX5_keysThatMatter_64 ?_
        obtain ⟨z6, hz6, hf⟩ := obd hf
        refine kZ (runV (As := [.ref (q 0)]) (rest := []) C0 hE hAb hP ((hD.weaken (fun _ _ _ h9 => hAb _ h9)).addr rfl) hS [10, 12, 14, 16] (wc := [oX4 r r_length, aI cI (r 2) 12 r_positions, oX4 q z5.2.2.2, aI cI (q 2) 12 z5.2.1]) (by decide) rfl 10 rfl rfl (c_X4_hasOrderOf l D cI cJ cZ cQ bs H.size r q r_length r_positions z5.2.2.2 z5.2.1 z6 hz6) (cwV 1 hts gX5_keysThatMatter_X4_hasOrderOf rfl rfl rfl (by decide +kernel) ⟨Nat.le_of_ble_eq_true rfl, Nat.le_of_ble_eq_true rfl⟩) rfl hl.1 rfl (Nat.le_of_ble_eq_true rfl) dX5_keysThatMatter_67 ⟨Nat.le_of_ble_eq_true rfl, Nat.le_of_ble_eq_true rfl⟩) hS hP (fun bz6 H locs hP hS => ?_)
        refine lv_if_ne (tgt := 79) hx hb dX5_keysThatMatter_70 (by decide) (fun c7 => ?_) (fun c7 => ?_)
        · replace hf := oel c7 hf
          obtain ⟨y8, ey8⟩ : ∃ y : Int32, y = v2 + 1 := ⟨_, rfl⟩
          replace hf := onm ey8 hf
          refine lv_iinc (v := y8) (lv' := [(2, .int y8), (0, .ref (x 0)), (1, .int v1)]) hx hb dX5_keysThatMatter_79 hl (k := 2) rfl (by rw [ey8]; rfl) (by decide) rfl (fun ls hl => ?_)
          refine lv_goto (tgt := 29) hx hb dX5_keysThatMatter_82 (by decide) ?_
          exact ih v1 y8 r_lesser r_positions r_places r_length z5.1 z5.2.1 z5.2.2.1 z5.2.2.2 H locs ls z hP hS (lv_sub hl [1, 2, 0] rfl) hf K
        · replace hf := oif c7 hf
          refine lv_iload_n hx hb dX5_keysThatMatter_73 rfl (lv_at hl 1 rfl) ?_
          refine lv_iconst (v := 1) hx hb dX5_keysThatMatter_74 (by decide) ?_
          refine lv_iload_n hx hb dX5_keysThatMatter_75 rfl (lv_at hl 2 rfl) ?_
          refine lv_ishl hx hb dX5_keysThatMatter_76 ?_
          refine lv_ior hx hb dX5_keysThatMatter_77 ?_
          refine lv_topi (fun y9 ey9 => ?_)
          replace hf := onm ey9 hf
          refine lv_istore_n (lv' := [(1, .int y9), (0, .ref (x 0)), (2, .int v2)]) hx hb dX5_keysThatMatter_78 rfl hl (by decide) rfl (fun ls hl => ?_)
          obtain ⟨y10, ey10⟩ : ∃ y : Int32, y = v2 + 1 := ⟨_, rfl⟩
          replace hf := onm ey10 hf
          refine lv_iinc (v := y10) (lv' := [(2, .int y10), (1, .int y9), (0, .ref (x 0))]) hx hb dX5_keysThatMatter_79 hl (k := 2) rfl (by rw [ey10]; rfl) (by decide) rfl (fun ls hl => ?_)
          refine lv_goto (tgt := 29) hx hb dX5_keysThatMatter_82 (by decide) ?_
          exact ih y9 y10 r_lesser r_positions r_places r_length z5.1 z5.2.1 z5.2.2.1 z5.2.2.2 H locs ls z hP hS (lv_sub hl [2, 1, 0] rfl) hf K
  unfold f_X5_keysThatMatter at hf
  have go : ∀ (H : Heap) (locs : List Loc), va_P D vwCl [oX5 x b h k r q v x_random, oX0 b b_keyCount b_sheetSet b_handSort b_handNumber, aI cI (b 1) 6 b_kinds, aI cI (b 2) 6 b_sizes, aI cI (b 3) 72 b_sorts, aJ cJ (b 4) 72 b_numbers, aI cI (b 5) 8 b_weights, aI cI (b 6) 4 b_keySlots, aI cI (b 7) 4 b_keyBys, aI cI (b 8) 4 b_keyWays, oX4 r r_length, aI cI (r 1) 12 r_lesser, aI cI (r 2) 12 r_positions, aI cI (r 3) 12 r_places, oX4 q q_length, aI cI (q 1) 12 q_lesser, aI cI (q 2) 12 q_positions, aI cI (q 3) 12 q_places] H → va_S A s.heap H locs → W p l e { frames := 5, cells := 0, slots := 0, locals := 122 } s m args below meth c H locs 0 0 (MQ below (QwI D zr (fun u => [oX5 x b h k r q v x_random, oX0 b b_keyCount b_sheetSet b_handSort b_handNumber, aI cI (b 1) 6 b_kinds, aI cI (b 2) 6 b_sizes, aI cI (b 3) 72 b_sorts, aJ cJ (b 4) 72 b_numbers, aI cI (b 5) 8 b_weights, aI cI (b 6) 4 b_keySlots, aI cI (b 7) 4 b_keyBys, aI cI (b 8) 4 b_keyWays, oX4 r u.2.2.2.1, aI cI (r 1) 12 u.1, aI cI (r 2) 12 u.2.1, aI cI (r 3) 12 u.2.2.1, oX4 q u.2.2.2.2.2.2.2, aI cI (q 1) 12 u.2.2.2.2.1, aI cI (q 2) 12 u.2.2.2.2.2.1, aI cI (q 3) 12 u.2.2.2.2.2.2.1]) A) args s 0 0 A) (F0 m 0 ls []) := by
    intro H locs hP hS
    refine lv_aload_n hx hb dX5_keysThatMatter_0 rfl (lv_at hl 0 rfl) ?_
    refine va_get (D := D) (ci := 5) (v := .ref (r 0)) (C := RX5) (T := TX5) (N := 9) hx hb hts hI_X5 hown hK hP 0 rfl rfl 3 (by decide) gf33 (fun _ h9 => h9) rfl dX5_keysThatMatter_1 ?_
    refine lv_aload_n hx hb dX5_keysThatMatter_4 rfl (lv_at hl 0 rfl) ?_
    refine va_get (D := D) (ci := 5) (v := .ref (b 0)) (C := RX5) (T := TX5) (N := 9) hx hb hts hI_X5 hown hK hP 0 rfl rfl 0 (by decide) gf10 (fun _ h9 => h9) rfl dX5_keysThatMatter_5 ?_
    refine lv_bipush (v := 15) hx hb dX5_keysThatMatter_8 (by decide) ?_
    obtain ⟨z1, hz1, hf⟩ := obd hf
    refine kwV (runV (As := [.ref (b 0), .int 15]) (rest := []) C0 hE hAb hP ((hD.weaken (fun _ _ _ h9 => hAb _ h9)).addr rfl) hS [1, 2, 3, 4, 5, 6, 7, 8, 9, 10, 11, 12, 13] (wc := [oX0 b b_keyCount b_sheetSet b_handSort b_handNumber, aI cI (b 1) 6 b_kinds, aI cI (b 2) 6 b_sizes, aI cI (b 3) 72 b_sorts, aJ cJ (b 4) 72 b_numbers, aI cI (b 5) 8 b_weights, aI cI (b 6) 4 b_keySlots, aI cI (b 7) 4 b_keyBys, aI cI (b 8) 4 b_keyWays, oX4 r r_length, aI cI (r 1) 12 r_lesser, aI cI (r 2) 12 r_positions, aI cI (r 3) 12 r_places]) (by decide) rfl 10 rfl rfl (c_X4_sortPlaces l D cI cJ cZ cQ bs H.size b r b_keyCount b_sheetSet b_handSort b_handNumber b_kinds b_sizes b_sorts b_numbers b_weights b_keySlots b_keyBys b_keyWays r_length r_lesser r_positions r_places 15 z1 hz1) (cwV 2 hts gX5_keysThatMatter_X4_sortPlaces rfl rfl rfl (by decide +kernel) ⟨Nat.le_of_ble_eq_true rfl, Nat.le_of_ble_eq_true rfl⟩) rfl hl.1 rfl (Nat.le_of_ble_eq_true rfl) dX5_keysThatMatter_10 ⟨Nat.le_of_ble_eq_true rfl, Nat.le_of_ble_eq_true rfl⟩) hS hP (hD.addr rfl) hA [1, 2, 3, 4, 5, 6, 7, 8, 9, 10, 11, 12, 13] rfl rfl (ws' := [oX5 x b h k r q v x_random, oX0 b b_keyCount b_sheetSet b_handSort b_handNumber, aI cI (b 1) 6 b_kinds, aI cI (b 2) 6 b_sizes, aI cI (b 3) 72 b_sorts, aJ cJ (b 4) 72 b_numbers, aI cI (b 5) 8 b_weights, aI cI (b 6) 4 b_keySlots, aI cI (b 7) 4 b_keyBys, aI cI (b 8) 4 b_keyWays, oX4 r z1.2.2.2, aI cI (r 1) 12 z1.1, aI cI (r 2) 12 z1.2.1, aI cI (r 3) 12 z1.2.2.1, oX4 q q_length, aI cI (q 1) 12 q_lesser, aI cI (q 2) 12 q_positions, aI cI (q 3) 12 q_places]) rfl rfl (fun H locs hP hS => ?_)
    refine lv_aload_n hx hb dX5_keysThatMatter_13 rfl (lv_at hl 0 rfl) ?_
    refine va_get (D := D) (ci := 5) (v := .ref (r 0)) (C := RX5) (T := TX5) (N := 9) hx hb hts hI_X5 hown hK hP 0 rfl rfl 3 (by decide) gf33 (fun _ h9 => h9) rfl dX5_keysThatMatter_14 ?_
    obtain ⟨z2, hz2, hf⟩ := obd hf
    refine kZ (runV (As := []) (rest := []) C0 hE hAb hP ((hD.weaken (fun _ _ _ h9 => hAb _ h9)).addr rfl) hS [10] (wc := [oX4 r z1.2.2.2]) (by decide) rfl 10 rfl rfl (c_X4_isFit l D cI cJ cZ cQ bs H.size r z1.2.2.2 z2 hz2) (cwV 0 hts gX5_keysThatMatter_X4_isFit rfl rfl rfl (by decide +kernel) ⟨Nat.le_of_ble_eq_true rfl, Nat.le_of_ble_eq_true rfl⟩) rfl hl.1 rfl (Nat.le_of_ble_eq_true rfl) dX5_keysThatMatter_17 ⟨Nat.le_of_ble_eq_true rfl, Nat.le_of_ble_eq_true rfl⟩) hS hP (fun bz2 H locs hP hS => ?_)
    refine lv_if_ne (tgt := 25) hx hb dX5_keysThatMatter_20 (by decide) (fun c3 => ?_) (fun c3 => ?_)
    · replace hf := oel c3 hf
      refine lv_iconst (v := 0) hx hb dX5_keysThatMatter_25 (by decide) ?_
      refine lv_istore_n (lv' := [(1, .int 0), (0, .ref (x 0))]) hx hb dX5_keysThatMatter_26 rfl hl (by decide) rfl (fun ls hl => ?_)
      refine lv_iconst (v := 0) hx hb dX5_keysThatMatter_27 (by decide) ?_
      refine lv_istore_n (lv' := [(2, .int 0), (1, .int 0), (0, .ref (x 0))]) hx hb dX5_keysThatMatter_28 rfl hl (by decide) rfl (fun ls hl => ?_)
      obtain ⟨z11, hz11, hf⟩ := obd hf
      refine W29 4000 0 0 z1.1 z1.2.1 z1.2.2.1 z1.2.2.2 q_lesser q_positions q_places q_length H locs ls z11 hP hS (lv_sub hl [2, 1, 0] rfl) hz11 (fun H locs ls hP hS hl => ?_)
      refine lv_iload_n hx hb dX5_keysThatMatter_85 rfl (lv_at hl 0 rfl) ?_
      have er := Option.some.inj hf
      exact rwI (wm := (fun u => [oX5 x b h k r q v x_random, oX0 b b_keyCount b_sheetSet b_handSort b_handNumber, aI cI (b 1) 6 b_kinds, aI cI (b 2) 6 b_sizes, aI cI (b 3) 72 b_sorts, aJ cJ (b 4) 72 b_numbers, aI cI (b 5) 8 b_weights, aI cI (b 6) 4 b_keySlots, aI cI (b 7) 4 b_keyBys, aI cI (b 8) 4 b_keyWays, oX4 r u.2.2.2.1, aI cI (r 1) 12 u.1, aI cI (r 2) 12 u.2.1, aI cI (r 3) 12 u.2.2.1, oX4 q u.2.2.2.2.2.2.2, aI cI (q 1) 12 u.2.2.2.2.1, aI cI (q 2) 12 u.2.2.2.2.2.1, aI cI (q 3) 12 u.2.2.2.2.2.2.1])) hx hb hr hS dX5_keysThatMatter_86 hP er hlocks
    · replace hf := oif c3 hf
      refine lv_iconst (v := (-1)) hx hb dX5_keysThatMatter_23 (by decide) ?_
      have er := Option.some.inj hf
      exact rwI (wm := (fun u => [oX5 x b h k r q v x_random, oX0 b b_keyCount b_sheetSet b_handSort b_handNumber, aI cI (b 1) 6 b_kinds, aI cI (b 2) 6 b_sizes, aI cI (b 3) 72 b_sorts, aJ cJ (b 4) 72 b_numbers, aI cI (b 5) 8 b_weights, aI cI (b 6) 4 b_keySlots, aI cI (b 7) 4 b_keyBys, aI cI (b 8) 4 b_keyWays, oX4 r u.2.2.2.1, aI cI (r 1) 12 u.1, aI cI (r 2) 12 u.2.1, aI cI (r 3) 12 u.2.2.1, oX4 q u.2.2.2.2.2.2.2, aI cI (q 1) 12 u.2.2.2.2.1, aI cI (q 2) 12 u.2.2.2.2.2.1, aI cI (q 3) 12 u.2.2.2.2.2.2.1])) hx hb hr hS dX5_keysThatMatter_24 hP er hlocks
  exact go s.heap [] hP hS
noncomputable def L_X5_fewestKeys_41 (b_kinds : Nat → Int32) (b_sizes : Nat → Int32) (b_sorts : Nat → Int32) (b_numbers : Nat → Int64) (b_weights : Nat → Int32) (b_keySlots : Nat → Int32) (b_keyBys : Nat → Int32) (b_keyWays : Nat → Int32) (b_keyCount : Int32) (b_sheetSet : Int32) (r_positions : Nat → Int32) (r_length : Int32) (v1 : Int32) : Nat → Int32 → Int32 → (Nat → Int32) → (Nat → Int32) → (Nat → Int32) → Int32 → Option (Int32 × (Nat → Int32) × (Nat → Int32) × (Nat → Int32) × Int32)
  | 0, _, _, _, _, _, _ => none
  | n + 1, v2, v3, q_lesser, q_positions, q_places, q_length => if v1 ≤ v3 then (some ((v2, q_lesser, q_positions, q_places, q_length))) else ((f_X4_sortPlaces b_kinds b_sizes b_sorts b_numbers b_weights b_keySlots b_keyBys b_keyWays b_keyCount b_sheetSet q_lesser q_positions q_places q_length v3).bind (fun z6 => (f_J6_bitCount_0f7a4 v3).bind (fun z7 => (f_J6_bitCount_0f7a4 v2).bind (fun z8 => if z8 ≤ z7 then ((some (v3 + 1 : Int32)).bind (fun y11 => L_X5_fewestKeys_41 b_kinds b_sizes b_sorts b_numbers b_weights b_keySlots b_keyBys b_keyWays b_keyCount b_sheetSet r_positions r_length v1 n v2 y11 z6.1 z6.2.1 z6.2.2.1 z6.2.2.2)) else ((f_X4_hasOrderOf r_positions r_length z6.2.1 z6.2.2.2).bind (fun z13 => if z13 = 0 then ((some (v3 + 1 : Int32)).bind (fun y15 => L_X5_fewestKeys_41 b_kinds b_sizes b_sorts b_numbers b_weights b_keySlots b_keyBys b_keyWays b_keyCount b_sheetSet r_positions r_length v1 n v2 y15 z6.1 z6.2.1 z6.2.2.1 z6.2.2.2)) else ((some (v3 + 1 : Int32)).bind (fun y16 => L_X5_fewestKeys_41 b_kinds b_sizes b_sorts b_numbers b_weights b_keySlots b_keyBys b_keyWays b_keyCount b_sheetSet r_positions r_length v1 n v3 y16 z6.1 z6.2.1 z6.2.2.1 z6.2.2.2))))))))
noncomputable def f_X5_fewestKeys (b_kinds : Nat → Int32) (b_sizes : Nat → Int32) (b_sorts : Nat → Int32) (b_numbers : Nat → Int64) (b_weights : Nat → Int32) (b_keySlots : Nat → Int32) (b_keyBys : Nat → Int32) (b_keyWays : Nat → Int32) (b_keyCount : Int32) (b_sheetSet : Int32) (r_lesser : Nat → Int32) (r_positions : Nat → Int32) (r_places : Nat → Int32) (r_length : Int32) (q_lesser : Nat → Int32) (q_positions : Nat → Int32) (q_places : Nat → Int32) (q_length : Int32) : Option (Int32 × (Nat → Int32) × (Nat → Int32) × (Nat → Int32) × Int32 × (Nat → Int32) × (Nat → Int32) × (Nat → Int32) × Int32) := (f_X4_sortPlaces b_kinds b_sizes b_sorts b_numbers b_weights b_keySlots b_keyBys b_keyWays b_keyCount b_sheetSet r_lesser r_positions r_places r_length 15).bind (fun z1 => (f_X4_isFit z1.2.2.2).bind (fun z2 => if z2 = 0 then (some (((-1), z1.1, z1.2.1, z1.2.2.1, z1.2.2.2, q_lesser, q_positions, q_places, q_length))) else ((some ((((1 : Int32) <<< (b_keyCount &&& 31)) - (1 : Int32)) : Int32)).bind (fun y4 => (L_X5_fewestKeys_41 b_kinds b_sizes b_sorts b_numbers b_weights b_keySlots b_keyBys b_keyWays b_keyCount b_sheetSet z1.2.1 z1.2.2.2 y4 4000 y4 0 q_lesser q_positions q_places q_length).bind (fun z17 => some ((z17.1, z1.1, z1.2.1, z1.2.2.1, z1.2.2.2, z17.2.1, z17.2.2.1, z17.2.2.2.1, z17.2.2.2.2)))))))
set_option maxHeartbeats 4000000 in
set_option maxRecDepth 100000 in
theorem c_X5_fewestKeys (l : Launch) (D : va_G) (cI cJ cZ cQ : ClassId) (bs sz : Nat) (x : Nat → Nat) (b : Nat → Nat) (h : Nat → Nat) (k : Nat → Nat) (r : Nat → Nat) (q : Nat → Nat) (v : Nat → Nat) (x_random : Int32) (b_keyCount : Int32) (b_sheetSet : Int32) (b_handSort : Int32) (b_handNumber : Int64) (b_kinds : Nat → Int32) (b_sizes : Nat → Int32) (b_sorts : Nat → Int32) (b_numbers : Nat → Int64) (b_weights : Nat → Int32) (b_keySlots : Nat → Int32) (b_keyBys : Nat → Int32) (b_keyWays : Nat → Int32) (r_length : Int32) (r_lesser : Nat → Int32) (r_positions : Nat → Int32) (r_places : Nat → Int32) (q_length : Int32) (q_lesser : Nat → Int32) (q_positions : Nat → Int32) (q_places : Nat → Int32) (zr : Int32 × (Nat → Int32) × (Nat → Int32) × (Nat → Int32) × Int32 × (Nat → Int32) × (Nat → Int32) × (Nat → Int32) × Int32) (hf : f_X5_fewestKeys b_kinds b_sizes b_sorts b_numbers b_weights b_keySlots b_keyBys b_keyWays b_keyCount b_sheetSet r_lesser r_positions r_places r_length q_lesser q_positions q_places q_length = some zr) : Met l yX5_fewestKeys wsX5_fewestKeys { frames := 5, cells := 0, slots := 0, locals := 122 } (va_Pc [.ref (x 0)] (Pr D cI cJ cZ cQ bs sz [oX5 x b h k r q v x_random, oX0 b b_keyCount b_sheetSet b_handSort b_handNumber, aI cI (b 1) 6 b_kinds, aI cI (b 2) 6 b_sizes, aI cI (b 3) 72 b_sorts, aJ cJ (b 4) 72 b_numbers, aI cI (b 5) 8 b_weights, aI cI (b 6) 4 b_keySlots, aI cI (b 7) 4 b_keyBys, aI cI (b 8) 4 b_keyWays, oX4 r r_length, aI cI (r 1) 12 r_lesser, aI cI (r 2) 12 r_positions, aI cI (r 3) 12 r_places, oX4 q q_length, aI cI (q 1) 12 q_lesser, aI cI (q 2) 12 q_positions, aI cI (q 3) 12 q_places])) (QwI D zr (fun u => [oX5 x b h k r q v x_random, oX0 b b_keyCount b_sheetSet b_handSort b_handNumber, aI cI (b 1) 6 b_kinds, aI cI (b 2) 6 b_sizes, aI cI (b 3) 72 b_sorts, aJ cJ (b 4) 72 b_numbers, aI cI (b 5) 8 b_weights, aI cI (b 6) 4 b_keySlots, aI cI (b 7) 4 b_keyBys, aI cI (b 8) 4 b_keyWays, oX4 r u.2.2.2.1, aI cI (r 1) 12 u.1, aI cI (r 2) 12 u.2.1, aI cI (r 3) 12 u.2.2.1, oX4 q u.2.2.2.2.2.2.2, aI cI (q 1) 12 u.2.2.2.2.1, aI cI (q 2) 12 u.2.2.2.2.2.1, aI cI (q 3) 12 u.2.2.2.2.2.2.1]) (va_A [oX5 x b h k r q v x_random, oX0 b b_keyCount b_sheetSet b_handSort b_handNumber, aI cI (b 1) 6 b_kinds, aI cI (b 2) 6 b_sizes, aI cI (b 3) 72 b_sorts, aJ cJ (b 4) 72 b_numbers, aI cI (b 5) 8 b_weights, aI cI (b 6) 4 b_keySlots, aI cI (b 7) 4 b_keyBys, aI cI (b 8) 4 b_keyWays, oX4 r r_length, aI cI (r 1) 12 r_lesser, aI cI (r 2) 12 r_positions, aI cI (r 3) 12 r_places, oX4 q q_length, aI cI (q 1) 12 q_lesser, aI cI (q 2) 12 q_positions, aI cI (q 3) 12 q_places] sz)) 0 0 (va_A [oX5 x b h k r q v x_random, oX0 b b_keyCount b_sheetSet b_handSort b_handNumber, aI cI (b 1) 6 b_kinds, aI cI (b 2) 6 b_sizes, aI cI (b 3) 72 b_sorts, aJ cJ (b 4) 72 b_numbers, aI cI (b 5) 8 b_weights, aI cI (b 6) 4 b_keySlots, aI cI (b 7) 4 b_keyBys, aI cI (b 8) 4 b_keyWays, oX4 r r_length, aI cI (r 1) 12 r_lesser, aI cI (r 2) 12 r_positions, aI cI (r 3) 12 r_places, oX4 q q_length, aI cI (q 1) 12 q_lesser, aI cI (q 2) 12 q_positions, aI cI (q 3) 12 q_places] sz) := by
  refine stW (cc := cX5_fewestKeys) (maxL := 5) (ret := (some .int)) (Qf := fun A => (QwI D zr (fun u => [oX5 x b h k r q v x_random, oX0 b b_keyCount b_sheetSet b_handSort b_handNumber, aI cI (b 1) 6 b_kinds, aI cI (b 2) 6 b_sizes, aI cI (b 3) 72 b_sorts, aJ cJ (b 4) 72 b_numbers, aI cI (b 5) 8 b_weights, aI cI (b 6) 4 b_keySlots, aI cI (b 7) 4 b_keyBys, aI cI (b 8) 4 b_keyWays, oX4 r u.2.2.2.1, aI cI (r 1) 12 u.1, aI cI (r 2) 12 u.2.1, aI cI (r 3) 12 u.2.2.1, oX4 q u.2.2.2.2.2.2.2, aI cI (q 1) 12 u.2.2.2.2.1, aI cI (q 2) 12 u.2.2.2.2.2.1, aI cI (q 3) 12 u.2.2.2.2.2.2.1]) A)) (by decide +kernel) rfl (Nat.le_of_ble_eq_true rfl) ?_
  intro p e s m args below meth c A C0 hr hlocks hname hsz hP hD hA hAb hE ls hl
  obtain ⟨hx, hb, hml, hown, hts⟩ := id C0
  have hown : s.vm.findClass RX5 = some m.cls := hown
  obtain ⟨hK, hNW, -, tw, hZ, hT⟩ := id hE
  have hl : lv_has ls 5 [(0, .ref (x 0))] := hl
  have hS : va_S A s.heap s.heap [] := va_S.rf
  have hI_X5 := (show ∀ w ∈ wsX50, w ∈ wsX5_fewestKeys by decide +kernel)
  have gf33 := hts (.fieldLink RX5 33 "RowRanks" "ranking" "LRowRanks$Ranking;") (by decide +kernel)
  have gf10 := hts (.fieldLink RX5 10 "RowRanks" "bench" "LRowRanks$Bench;") (by decide +kernel)
  have hI_X0 := (show ∀ w ∈ wsX00, w ∈ wsX5_fewestKeys by decide +kernel)
  have gf59 := hNW (.fieldLinkNest RX5 59 RX0 "keyCount" "I" RX5) (by decide +kernel)
  have gf37 := hts (.fieldLink RX5 37 "RowRanks" "otherRanking" "LRowRanks$Ranking;") (by decide +kernel)
  have W41 : ∀ (n : Nat) (v1 : Int32) (v2 : Int32) (v3 : Int32) (r_lesser : Nat → Int32) (r_positions : Nat → Int32) (r_places : Nat → Int32) (r_length : Int32) (q_lesser : Nat → Int32) (q_positions : Nat → Int32) (q_places : Nat → Int32) (q_length : Int32) (H : Heap) (locs : List Loc) (ls : Array Slot) (z : Int32 × (Nat → Int32) × (Nat → Int32) × (Nat → Int32) × Int32), va_P D vwCl [oX5 x b h k r q v x_random, oX0 b b_keyCount b_sheetSet b_handSort b_handNumber, aI cI (b 1) 6 b_kinds, aI cI (b 2) 6 b_sizes, aI cI (b 3) 72 b_sorts, aJ cJ (b 4) 72 b_numbers, aI cI (b 5) 8 b_weights, aI cI (b 6) 4 b_keySlots, aI cI (b 7) 4 b_keyBys, aI cI (b 8) 4 b_keyWays, oX4 r r_length, aI cI (r 1) 12 r_lesser, aI cI (r 2) 12 r_positions, aI cI (r 3) 12 r_places, oX4 q q_length, aI cI (q 1) 12 q_lesser, aI cI (q 2) 12 q_positions, aI cI (q 3) 12 q_places] H → va_S A s.heap H locs → lv_has ls 5 [(0, .ref (x 0)), (1, .int v1), (2, .int v2), (3, .int v3)] → L_X5_fewestKeys_41 b_kinds b_sizes b_sorts b_numbers b_weights b_keySlots b_keyBys b_keyWays b_keyCount b_sheetSet r_positions r_length v1 n v2 v3 q_lesser q_positions q_places q_length = some z → (∀ (H : Heap) (locs : List Loc) (ls : Array Slot), va_P D vwCl [oX5 x b h k r q v x_random, oX0 b b_keyCount b_sheetSet b_handSort b_handNumber, aI cI (b 1) 6 b_kinds, aI cI (b 2) 6 b_sizes, aI cI (b 3) 72 b_sorts, aJ cJ (b 4) 72 b_numbers, aI cI (b 5) 8 b_weights, aI cI (b 6) 4 b_keySlots, aI cI (b 7) 4 b_keyBys, aI cI (b 8) 4 b_keyWays, oX4 r r_length, aI cI (r 1) 12 r_lesser, aI cI (r 2) 12 r_positions, aI cI (r 3) 12 r_places, oX4 q z.2.2.2.2, aI cI (q 1) 12 z.2.1, aI cI (q 2) 12 z.2.2.1, aI cI (q 3) 12 z.2.2.2.1] H → va_S A s.heap H locs → lv_has ls 5 [(2, .int z.1)] → W p l e { frames := 5, cells := 0, slots := 0, locals := 122 } s m args below meth c H locs 0 0 (MQ below (QwI D zr (fun u => [oX5 x b h k r q v x_random, oX0 b b_keyCount b_sheetSet b_handSort b_handNumber, aI cI (b 1) 6 b_kinds, aI cI (b 2) 6 b_sizes, aI cI (b 3) 72 b_sorts, aJ cJ (b 4) 72 b_numbers, aI cI (b 5) 8 b_weights, aI cI (b 6) 4 b_keySlots, aI cI (b 7) 4 b_keyBys, aI cI (b 8) 4 b_keyWays, oX4 r u.2.2.2.1, aI cI (r 1) 12 u.1, aI cI (r 2) 12 u.2.1, aI cI (r 3) 12 u.2.2.1, oX4 q u.2.2.2.2.2.2.2, aI cI (q 1) 12 u.2.2.2.2.1, aI cI (q 2) 12 u.2.2.2.2.2.1, aI cI (q 3) 12 u.2.2.2.2.2.2.1]) A) args s 0 0 A) (F0 m 103 ls [])) → W p l e { frames := 5, cells := 0, slots := 0, locals := 122 } s m args below meth c H locs 0 0 (MQ below (QwI D zr (fun u => [oX5 x b h k r q v x_random, oX0 b b_keyCount b_sheetSet b_handSort b_handNumber, aI cI (b 1) 6 b_kinds, aI cI (b 2) 6 b_sizes, aI cI (b 3) 72 b_sorts, aJ cJ (b 4) 72 b_numbers, aI cI (b 5) 8 b_weights, aI cI (b 6) 4 b_keySlots, aI cI (b 7) 4 b_keyBys, aI cI (b 8) 4 b_keyWays, oX4 r u.2.2.2.1, aI cI (r 1) 12 u.1, aI cI (r 2) 12 u.2.1, aI cI (r 3) 12 u.2.2.1, oX4 q u.2.2.2.2.2.2.2, aI cI (q 1) 12 u.2.2.2.2.1, aI cI (q 2) 12 u.2.2.2.2.2.1, aI cI (q 3) 12 u.2.2.2.2.2.2.1]) A) args s 0 0 A) (F0 m 41 ls []) := by
    intro n
    induction n with
    | zero =>
      intro v1 v2 v3 r_lesser r_positions r_places r_length q_lesser q_positions q_places q_length H locs ls z hP hS hl hf
      exact absurd (show (none : Option (Int32 × (Nat → Int32) × (Nat → Int32) × (Nat → Int32) × Int32)) = some z from hf) (fun h => by cases h)
    | succ n ih =>
      intro v1 v2 v3 r_lesser r_positions r_places r_length q_lesser q_positions q_places q_length H locs ls z hP hS hl hf K
      rw [L_X5_fewestKeys_41] at hf
      refine lv_iload_n hx hb dX5_fewestKeys_41 rfl (lv_at hl 3 rfl) ?_
      refine lv_iload_n hx hb dX5_fewestKeys_42 rfl (lv_at hl 1 rfl) ?_
      refine lv_icmp_ge (tgt := 103) hx hb dX5_fewestKeys_43 (by decide) (fun c5 => ?_) (fun c5 => ?_)
      · replace hf := oif c5 hf
        have hf := Option.some.inj hf
        subst hf
        exact K H locs ls hP hS (lv_sub hl [2] rfl)
      · replace hf := oel c5 hf
        refine lv_aload_n hx hb dX5_fewestKeys_46 rfl (lv_at hl 0 rfl) ?_
        refine va_get (D := D) (ci := 5) (v := .ref (q 0)) (C := RX5) (T := TX5) (N := 9) hx hb hts hI_X5 hown hK hP 0 rfl rfl 4 (by decide) gf37 (fun _ h9 => h9) rfl dX5_fewestKeys_47 ?_
        refine lv_aload_n hx hb dX5_fewestKeys_50 rfl (lv_at hl 0 rfl) ?_
        refine va_get (D := D) (ci := 5) (v := .ref (b 0)) (C := RX5) (T := TX5) (N := 9) hx hb hts hI_X5 hown hK hP 0 rfl rfl 0 (by decide) gf10 (fun _ h9 => h9) rfl dX5_fewestKeys_51 ?_
        refine lv_iload_n hx hb dX5_fewestKeys_54 rfl (lv_at hl 3 rfl) ?_
        obtain ⟨z6, hz6, hf⟩ := obd hf
        refine kwV (runV (As := [.ref (b 0), .int v3]) (rest := []) C0 hE hAb hP ((hD.weaken (fun _ _ _ h9 => hAb _ h9)).addr rfl) hS [1, 2, 3, 4, 5, 6, 7, 8, 9, 14, 15, 16, 17] (wc := [oX0 b b_keyCount b_sheetSet b_handSort b_handNumber, aI cI (b 1) 6 b_kinds, aI cI (b 2) 6 b_sizes, aI cI (b 3) 72 b_sorts, aJ cJ (b 4) 72 b_numbers, aI cI (b 5) 8 b_weights, aI cI (b 6) 4 b_keySlots, aI cI (b 7) 4 b_keyBys, aI cI (b 8) 4 b_keyWays, oX4 q q_length, aI cI (q 1) 12 q_lesser, aI cI (q 2) 12 q_positions, aI cI (q 3) 12 q_places]) (by decide) rfl 14 rfl rfl (c_X4_sortPlaces l D cI cJ cZ cQ bs H.size b q b_keyCount b_sheetSet b_handSort b_handNumber b_kinds b_sizes b_sorts b_numbers b_weights b_keySlots b_keyBys b_keyWays q_length q_lesser q_positions q_places v3 z6 hz6) (cwV 2 hts gX5_fewestKeys_X4_sortPlaces rfl rfl rfl (by decide +kernel) ⟨Nat.le_of_ble_eq_true rfl, Nat.le_of_ble_eq_true rfl⟩) rfl hl.1 rfl (Nat.le_of_ble_eq_true rfl) dX5_fewestKeys_55 ⟨Nat.le_of_ble_eq_true rfl, Nat.le_of_ble_eq_true rfl⟩) hS hP (hD.addr rfl) hA [1, 2, 3, 4, 5, 6, 7, 8, 9, 14, 15, 16, 17] rfl rfl (ws' := [oX5 x b h k r q v x_random, oX0 b b_keyCount b_sheetSet b_handSort b_handNumber, aI cI (b 1) 6 b_kinds, aI cI (b 2) 6 b_sizes, aI cI (b 3) 72 b_sorts, aJ cJ (b 4) 72 b_numbers, aI cI (b 5) 8 b_weights, aI cI (b 6) 4 b_keySlots, aI cI (b 7) 4 b_keyBys, aI cI (b 8) 4 b_keyWays, oX4 r r_length, aI cI (r 1) 12 r_lesser, aI cI (r 2) 12 r_positions, aI cI (r 3) 12 r_places, oX4 q z6.2.2.2, aI cI (q 1) 12 z6.1, aI cI (q 2) 12 z6.2.1, aI cI (q 3) 12 z6.2.2.1]) rfl rfl (fun H locs hP hS => ?_)
        refine lv_iload_n hx hb dX5_fewestKeys_58 rfl (lv_at hl 3 rfl) ?_
        obtain ⟨z7, hz7, hf⟩ := obd hf
        refine kI (runS (As := [.int v3]) (rest := []) C0 hE hAb hP ((hD.weaken (fun _ _ _ h9 => hAb _ h9)).addr rfl) hS [] (wc := []) (by decide) rfl (c_J6_bitCount_0f7a4 l D cI cJ cZ cQ bs H.size v3 z7 hz7) (va_cwS 1 hts gX5_fewestKeys_J6_bitCount_0f7a4 rfl rfl rfl (by decide +kernel) ⟨Nat.le_of_ble_eq_true rfl, Nat.le_of_ble_eq_true rfl⟩) rfl hl.1 rfl (Nat.le_of_ble_eq_true rfl) dX5_fewestKeys_59 ⟨Nat.le_of_ble_eq_true rfl, Nat.le_of_ble_eq_true rfl⟩) hS hP (fun H locs hP hS => ?_)
        refine lv_iload_n hx hb dX5_fewestKeys_62 rfl (lv_at hl 2 rfl) ?_
        obtain ⟨z8, hz8, hf⟩ := obd hf
        refine kI (runS (As := [.int v2]) (rest := [.int z7]) C0 hE hAb hP ((hD.weaken (fun _ _ _ h9 => hAb _ h9)).addr rfl) hS [] (wc := []) (by decide) rfl (c_J6_bitCount_0f7a4 l D cI cJ cZ cQ bs H.size v2 z8 hz8) (va_cwS 1 hts gX5_fewestKeys_J6_bitCount_0f7a4 rfl rfl rfl (by decide +kernel) ⟨Nat.le_of_ble_eq_true rfl, Nat.le_of_ble_eq_true rfl⟩) rfl hl.1 rfl (Nat.le_of_ble_eq_true rfl) dX5_fewestKeys_63 ⟨Nat.le_of_ble_eq_true rfl, Nat.le_of_ble_eq_true rfl⟩) hS hP (fun H locs hP hS => ?_)
        refine lv_icmp_ge (tgt := 73) hx hb dX5_fewestKeys_66 (by decide) (fun c9 => ?_) (fun c9 => ?_)
        · replace hf := oif c9 hf
          refine lv_iconst (v := 0) hx hb dX5_fewestKeys_73 (by decide) ?_
          refine lv_istore (lv' := [(4, .int 0), (0, .ref (x 0)), (1, .int v1), (2, .int v2), (3, .int v3)]) hx hb dX5_fewestKeys_74 hl (by decide) rfl (fun ls hl => ?_)
          refine lv_iload hx hb dX5_fewestKeys_76 (lv_at hl 0 rfl) ?_
          refine lv_if_eq (tgt := 97) hx hb dX5_fewestKeys_78 (by decide) (fun _ => ?_) (fun h9 => absurd (by decide) h9)
          obtain ⟨y11, ey11⟩ : ∃ y : Int32, y = v3 + 1 := ⟨_, rfl⟩
          replace hf := onm ey11 hf
          refine lv_iinc (v := y11) (lv' := [(3, .int y11), (4, .int 0), (0, .ref (x 0)), (1, .int v1), (2, .int v2)]) hx hb dX5_fewestKeys_97 hl (k := 4) rfl (by rw [ey11]; rfl) (by decide) rfl (fun ls hl => ?_)
          refine lv_goto (tgt := 41) hx hb dX5_fewestKeys_100 (by decide) ?_
          exact ih v1 v2 y11 r_lesser r_positions r_places r_length z6.1 z6.2.1 z6.2.2.1 z6.2.2.2 H locs ls z hP hS (lv_sub hl [2, 3, 4, 0] rfl) hf K
        · replace hf := oel c9 hf
          refine lv_iconst (v := 1) hx hb dX5_fewestKeys_69 (by decide) ?_
          refine lv_goto (tgt := 74) hx hb dX5_fewestKeys_70 (by decide) ?_
          refine lv_istore (lv' := [(4, .int 1), (0, .ref (x 0)), (1, .int v1), (2, .int v2), (3, .int v3)]) hx hb dX5_fewestKeys_74 hl (by decide) rfl (fun ls hl => ?_)
          refine lv_iload hx hb dX5_fewestKeys_76 (lv_at hl 0 rfl) ?_
          refine lv_if_eq (tgt := 97) hx hb dX5_fewestKeys_78 (by decide) (fun h9 => absurd h9 (by decide)) (fun _ => ?_)
          refine lv_aload_n hx hb dX5_fewestKeys_81 rfl (lv_at hl 1 rfl) ?_
          refine va_get (D := D) (ci := 5) (v := .ref (r 0)) (C := RX5) (T := TX5) (N := 9) hx hb hts hI_X5 hown hK hP 0 rfl rfl 3 (by decide) gf33 (fun _ h9 => h9) rfl dX5_fewestKeys_82 ?_
          refine lv_aload_n hx hb dX5_fewestKeys_85 rfl (lv_at hl 1 rfl) ?_
          refine va_get (D := D) (ci := 5) (v := .ref (q 0)) (C := RX5) (T := TX5) (N := 9) hx hb hts hI_X5 hown hK hP 0 rfl rfl 4 (by decide) gf37 (fun _ h9 => h9) rfl dX5_fewestKeys_86 ?_
          obtain ⟨z13, hz13, hf⟩ := obd hf
          refine kZ (runV (As := [.ref (q 0)]) (rest := []) C0 hE hAb hP ((hD.weaken (fun _ _ _ h9 => hAb _ h9)).addr rfl) hS [10, 12, 14, 16] (wc := [oX4 r r_length, aI cI (r 2) 12 r_positions, oX4 q z6.2.2.2, aI cI (q 2) 12 z6.2.1]) (by decide) rfl 10 rfl rfl (c_X4_hasOrderOf l D cI cJ cZ cQ bs H.size r q r_length r_positions z6.2.2.2 z6.2.1 z13 hz13) (cwV 1 hts gX5_fewestKeys_X4_hasOrderOf rfl rfl rfl (by decide +kernel) ⟨Nat.le_of_ble_eq_true rfl, Nat.le_of_ble_eq_true rfl⟩) rfl hl.1 rfl (Nat.le_of_ble_eq_true rfl) dX5_fewestKeys_89 ⟨Nat.le_of_ble_eq_true rfl, Nat.le_of_ble_eq_true rfl⟩) hS hP (fun bz13 H locs hP hS => ?_)
          refine lv_if_eq (tgt := 97) hx hb dX5_fewestKeys_92 (by decide) (fun c14 => ?_) (fun c14 => ?_)
          · replace hf := oif c14 hf
            obtain ⟨y15, ey15⟩ : ∃ y : Int32, y = v3 + 1 := ⟨_, rfl⟩
            replace hf := onm ey15 hf
            refine lv_iinc (v := y15) (lv' := [(3, .int y15), (4, .int 1), (0, .ref (x 0)), (1, .int v1), (2, .int v2)]) hx hb dX5_fewestKeys_97 hl (k := 4) rfl (by rw [ey15]; rfl) (by decide) rfl (fun ls hl => ?_)
            refine lv_goto (tgt := 41) hx hb dX5_fewestKeys_100 (by decide) ?_
            exact ih v1 v2 y15 r_lesser r_positions r_places r_length z6.1 z6.2.1 z6.2.2.1 z6.2.2.2 H locs ls z hP hS (lv_sub hl [2, 3, 4, 0] rfl) hf K
          · replace hf := oel c14 hf
            refine lv_iload_n hx hb dX5_fewestKeys_95 rfl (lv_at hl 4 rfl) ?_
            refine lv_istore_n (lv' := [(2, .int v3), (4, .int 1), (0, .ref (x 0)), (1, .int v1), (3, .int v3)]) hx hb dX5_fewestKeys_96 rfl hl (by decide) rfl (fun ls hl => ?_)
            obtain ⟨y16, ey16⟩ : ∃ y : Int32, y = v3 + 1 := ⟨_, rfl⟩
            replace hf := onm ey16 hf
            refine lv_iinc (v := y16) (lv' := [(3, .int y16), (2, .int v3), (4, .int 1), (0, .ref (x 0)), (1, .int v1)]) hx hb dX5_fewestKeys_97 hl (k := 4) rfl (by rw [ey16]; rfl) (by decide) rfl (fun ls hl => ?_)
            refine lv_goto (tgt := 41) hx hb dX5_fewestKeys_100 (by decide) ?_
            exact ih v1 v3 y16 r_lesser r_positions r_places r_length z6.1 z6.2.1 z6.2.2.1 z6.2.2.2 H locs ls z hP hS (lv_sub hl [3, 4, 1, 0] rfl) hf K
  unfold f_X5_fewestKeys at hf
  have go : ∀ (H : Heap) (locs : List Loc), va_P D vwCl [oX5 x b h k r q v x_random, oX0 b b_keyCount b_sheetSet b_handSort b_handNumber, aI cI (b 1) 6 b_kinds, aI cI (b 2) 6 b_sizes, aI cI (b 3) 72 b_sorts, aJ cJ (b 4) 72 b_numbers, aI cI (b 5) 8 b_weights, aI cI (b 6) 4 b_keySlots, aI cI (b 7) 4 b_keyBys, aI cI (b 8) 4 b_keyWays, oX4 r r_length, aI cI (r 1) 12 r_lesser, aI cI (r 2) 12 r_positions, aI cI (r 3) 12 r_places, oX4 q q_length, aI cI (q 1) 12 q_lesser, aI cI (q 2) 12 q_positions, aI cI (q 3) 12 q_places] H → va_S A s.heap H locs → W p l e { frames := 5, cells := 0, slots := 0, locals := 122 } s m args below meth c H locs 0 0 (MQ below (QwI D zr (fun u => [oX5 x b h k r q v x_random, oX0 b b_keyCount b_sheetSet b_handSort b_handNumber, aI cI (b 1) 6 b_kinds, aI cI (b 2) 6 b_sizes, aI cI (b 3) 72 b_sorts, aJ cJ (b 4) 72 b_numbers, aI cI (b 5) 8 b_weights, aI cI (b 6) 4 b_keySlots, aI cI (b 7) 4 b_keyBys, aI cI (b 8) 4 b_keyWays, oX4 r u.2.2.2.1, aI cI (r 1) 12 u.1, aI cI (r 2) 12 u.2.1, aI cI (r 3) 12 u.2.2.1, oX4 q u.2.2.2.2.2.2.2, aI cI (q 1) 12 u.2.2.2.2.1, aI cI (q 2) 12 u.2.2.2.2.2.1, aI cI (q 3) 12 u.2.2.2.2.2.2.1]) A) args s 0 0 A) (F0 m 0 ls []) := by
    intro H locs hP hS
    refine lv_aload_n hx hb dX5_fewestKeys_0 rfl (lv_at hl 0 rfl) ?_
    refine va_get (D := D) (ci := 5) (v := .ref (r 0)) (C := RX5) (T := TX5) (N := 9) hx hb hts hI_X5 hown hK hP 0 rfl rfl 3 (by decide) gf33 (fun _ h9 => h9) rfl dX5_fewestKeys_1 ?_
    refine lv_aload_n hx hb dX5_fewestKeys_4 rfl (lv_at hl 0 rfl) ?_
    refine va_get (D := D) (ci := 5) (v := .ref (b 0)) (C := RX5) (T := TX5) (N := 9) hx hb hts hI_X5 hown hK hP 0 rfl rfl 0 (by decide) gf10 (fun _ h9 => h9) rfl dX5_fewestKeys_5 ?_
    refine lv_bipush (v := 15) hx hb dX5_fewestKeys_8 (by decide) ?_
    obtain ⟨z1, hz1, hf⟩ := obd hf
    refine kwV (runV (As := [.ref (b 0), .int 15]) (rest := []) C0 hE hAb hP ((hD.weaken (fun _ _ _ h9 => hAb _ h9)).addr rfl) hS [1, 2, 3, 4, 5, 6, 7, 8, 9, 10, 11, 12, 13] (wc := [oX0 b b_keyCount b_sheetSet b_handSort b_handNumber, aI cI (b 1) 6 b_kinds, aI cI (b 2) 6 b_sizes, aI cI (b 3) 72 b_sorts, aJ cJ (b 4) 72 b_numbers, aI cI (b 5) 8 b_weights, aI cI (b 6) 4 b_keySlots, aI cI (b 7) 4 b_keyBys, aI cI (b 8) 4 b_keyWays, oX4 r r_length, aI cI (r 1) 12 r_lesser, aI cI (r 2) 12 r_positions, aI cI (r 3) 12 r_places]) (by decide) rfl 10 rfl rfl (c_X4_sortPlaces l D cI cJ cZ cQ bs H.size b r b_keyCount b_sheetSet b_handSort b_handNumber b_kinds b_sizes b_sorts b_numbers b_weights b_keySlots b_keyBys b_keyWays r_length r_lesser r_positions r_places 15 z1 hz1) (cwV 2 hts gX5_fewestKeys_X4_sortPlaces rfl rfl rfl (by decide +kernel) ⟨Nat.le_of_ble_eq_true rfl, Nat.le_of_ble_eq_true rfl⟩) rfl hl.1 rfl (Nat.le_of_ble_eq_true rfl) dX5_fewestKeys_10 ⟨Nat.le_of_ble_eq_true rfl, Nat.le_of_ble_eq_true rfl⟩) hS hP (hD.addr rfl) hA [1, 2, 3, 4, 5, 6, 7, 8, 9, 10, 11, 12, 13] rfl rfl (ws' := [oX5 x b h k r q v x_random, oX0 b b_keyCount b_sheetSet b_handSort b_handNumber, aI cI (b 1) 6 b_kinds, aI cI (b 2) 6 b_sizes, aI cI (b 3) 72 b_sorts, aJ cJ (b 4) 72 b_numbers, aI cI (b 5) 8 b_weights, aI cI (b 6) 4 b_keySlots, aI cI (b 7) 4 b_keyBys, aI cI (b 8) 4 b_keyWays, oX4 r z1.2.2.2, aI cI (r 1) 12 z1.1, aI cI (r 2) 12 z1.2.1, aI cI (r 3) 12 z1.2.2.1, oX4 q q_length, aI cI (q 1) 12 q_lesser, aI cI (q 2) 12 q_positions, aI cI (q 3) 12 q_places]) rfl rfl (fun H locs hP hS => ?_)
    refine lv_aload_n hx hb dX5_fewestKeys_13 rfl (lv_at hl 0 rfl) ?_
    refine va_get (D := D) (ci := 5) (v := .ref (r 0)) (C := RX5) (T := TX5) (N := 9) hx hb hts hI_X5 hown hK hP 0 rfl rfl 3 (by decide) gf33 (fun _ h9 => h9) rfl dX5_fewestKeys_14 ?_
    obtain ⟨z2, hz2, hf⟩ := obd hf
    refine kZ (runV (As := []) (rest := []) C0 hE hAb hP ((hD.weaken (fun _ _ _ h9 => hAb _ h9)).addr rfl) hS [10] (wc := [oX4 r z1.2.2.2]) (by decide) rfl 10 rfl rfl (c_X4_isFit l D cI cJ cZ cQ bs H.size r z1.2.2.2 z2 hz2) (cwV 0 hts gX5_fewestKeys_X4_isFit rfl rfl rfl (by decide +kernel) ⟨Nat.le_of_ble_eq_true rfl, Nat.le_of_ble_eq_true rfl⟩) rfl hl.1 rfl (Nat.le_of_ble_eq_true rfl) dX5_fewestKeys_17 ⟨Nat.le_of_ble_eq_true rfl, Nat.le_of_ble_eq_true rfl⟩) hS hP (fun bz2 H locs hP hS => ?_)
    refine lv_if_ne (tgt := 25) hx hb dX5_fewestKeys_20 (by decide) (fun c3 => ?_) (fun c3 => ?_)
    · replace hf := oel c3 hf
      refine lv_iconst (v := 1) hx hb dX5_fewestKeys_25 (by decide) ?_
      refine lv_aload_n hx hb dX5_fewestKeys_26 rfl (lv_at hl 0 rfl) ?_
      refine va_get (D := D) (ci := 5) (v := .ref (b 0)) (C := RX5) (T := TX5) (N := 9) hx hb hts hI_X5 hown hK hP 0 rfl rfl 0 (by decide) gf10 (fun _ h9 => h9) rfl dX5_fewestKeys_27 ?_
      refine va_getN (D := D) (ci := 0) (v := .int b_keyCount) (C := RX0) (T := TX0) (N := 12) hx hb hts hI_X0 hown hK hP 1 rfl rfl 8 (by decide) (va_Nw.use rfl gf59) (fun _ h9 => h9) rfl dX5_fewestKeys_30 ?_
      refine lv_ishl hx hb dX5_fewestKeys_33 ?_
      refine lv_iconst (v := 1) hx hb dX5_fewestKeys_34 (by decide) ?_
      refine lv_isub hx hb dX5_fewestKeys_35 ?_
      refine lv_topi (fun y4 ey4 => ?_)
      replace hf := onm ey4 hf
      refine lv_istore_n (lv' := [(1, .int y4), (0, .ref (x 0))]) hx hb dX5_fewestKeys_36 rfl hl (by decide) rfl (fun ls hl => ?_)
      refine lv_iload_n hx hb dX5_fewestKeys_37 rfl (lv_at hl 0 rfl) ?_
      refine lv_istore_n (lv' := [(2, .int y4), (1, .int y4), (0, .ref (x 0))]) hx hb dX5_fewestKeys_38 rfl hl (by decide) rfl (fun ls hl => ?_)
      refine lv_iconst (v := 0) hx hb dX5_fewestKeys_39 (by decide) ?_
      refine lv_istore_n (lv' := [(3, .int 0), (2, .int y4), (1, .int y4), (0, .ref (x 0))]) hx hb dX5_fewestKeys_40 rfl hl (by decide) rfl (fun ls hl => ?_)
      obtain ⟨z17, hz17, hf⟩ := obd hf
      refine W41 4000 y4 y4 0 z1.1 z1.2.1 z1.2.2.1 z1.2.2.2 q_lesser q_positions q_places q_length H locs ls z17 hP hS (lv_sub hl [3, 2, 1, 0] rfl) hz17 (fun H locs ls hP hS hl => ?_)
      refine lv_iload_n hx hb dX5_fewestKeys_103 rfl (lv_at hl 0 rfl) ?_
      have er := Option.some.inj hf
      exact rwI (wm := (fun u => [oX5 x b h k r q v x_random, oX0 b b_keyCount b_sheetSet b_handSort b_handNumber, aI cI (b 1) 6 b_kinds, aI cI (b 2) 6 b_sizes, aI cI (b 3) 72 b_sorts, aJ cJ (b 4) 72 b_numbers, aI cI (b 5) 8 b_weights, aI cI (b 6) 4 b_keySlots, aI cI (b 7) 4 b_keyBys, aI cI (b 8) 4 b_keyWays, oX4 r u.2.2.2.1, aI cI (r 1) 12 u.1, aI cI (r 2) 12 u.2.1, aI cI (r 3) 12 u.2.2.1, oX4 q u.2.2.2.2.2.2.2, aI cI (q 1) 12 u.2.2.2.2.1, aI cI (q 2) 12 u.2.2.2.2.2.1, aI cI (q 3) 12 u.2.2.2.2.2.2.1])) hx hb hr hS dX5_fewestKeys_104 hP er hlocks
    · replace hf := oif c3 hf
      refine lv_iconst (v := (-1)) hx hb dX5_fewestKeys_23 (by decide) ?_
      have er := Option.some.inj hf
      exact rwI (wm := (fun u => [oX5 x b h k r q v x_random, oX0 b b_keyCount b_sheetSet b_handSort b_handNumber, aI cI (b 1) 6 b_kinds, aI cI (b 2) 6 b_sizes, aI cI (b 3) 72 b_sorts, aJ cJ (b 4) 72 b_numbers, aI cI (b 5) 8 b_weights, aI cI (b 6) 4 b_keySlots, aI cI (b 7) 4 b_keyBys, aI cI (b 8) 4 b_keyWays, oX4 r u.2.2.2.1, aI cI (r 1) 12 u.1, aI cI (r 2) 12 u.2.1, aI cI (r 3) 12 u.2.2.1, oX4 q u.2.2.2.2.2.2.2, aI cI (q 1) 12 u.2.2.2.2.1, aI cI (q 2) 12 u.2.2.2.2.2.1, aI cI (q 3) 12 u.2.2.2.2.2.2.1])) hx hb hr hS dX5_fewestKeys_24 hP er hlocks
  exact go s.heap [] hP hS
