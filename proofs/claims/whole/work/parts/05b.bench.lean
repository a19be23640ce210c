noncomputable def f_X0_copyFrom (b_kinds : Nat → Int32) (b_sizes : Nat → Int32) (b_sorts : Nat → Int32) (b_numbers : Nat → Int64) (b_weights : Nat → Int32) (b_keySlots : Nat → Int32) (b_keyBys : Nat → Int32) (b_keyWays : Nat → Int32) (b_keyCount : Int32) (b_sheetSet : Int32) (b_handSort : Int32) (b_handNumber : Int64) (o_kinds : Nat → Int32) (o_sizes : Nat → Int32) (o_sorts : Nat → Int32) (o_numbers : Nat → Int64) (o_weights : Nat → Int32) (o_keySlots : Nat → Int32) (o_keyBys : Nat → Int32) (o_keyWays : Nat → Int32) (o_keyCount : Int32) (o_sheetSet : Int32) (o_handSort : Int32) (o_handNumber : Int64) : Option ((Nat → Int32) × (Nat → Int32) × (Nat → Int32) × (Nat → Int64) × (Nat → Int32) × (Nat → Int32) × (Nat → Int32) × (Nat → Int32) × Int32 × Int32 × Int32 × Int64) := some (((va_cpy o_kinds b_kinds 0 0 6), (va_cpy o_sizes b_sizes 0 0 6), (va_cpy o_sorts b_sorts 0 0 72), (va_cpy o_numbers b_numbers 0 0 72), (va_cpy o_weights b_weights 0 0 8), (va_cpy o_keySlots b_keySlots 0 0 4), (va_cpy o_keyBys b_keyBys 0 0 4), (va_cpy o_keyWays b_keyWays 0 0 4), o_keyCount, o_sheetSet, o_handSort, o_handNumber))
set_option maxHeartbeats 4000000 in
set_option maxRecDepth 100000 in
theorem c_X0_copyFrom (l : Launch) (D : va_G) (cI cJ cZ cQ : ClassId) (bs sz : Nat) (b : Nat → Nat) (o : Nat → Nat) (b_keyCount : Int32) (b_sheetSet : Int32) (b_handSort : Int32) (b_handNumber : Int64) (b_kinds : Nat → Int32) (b_sizes : Nat → Int32) (b_sorts : Nat → Int32) (b_numbers : Nat → Int64) (b_weights : Nat → Int32) (b_keySlots : Nat → Int32) (b_keyBys : Nat → Int32) (b_keyWays : Nat → Int32) (o_keyCount : Int32) (o_sheetSet : Int32) (o_handSort : Int32) (o_handNumber : Int64) (o_kinds : Nat → Int32) (o_sizes : Nat → Int32) (o_sorts : Nat → Int32) (o_numbers : Nat → Int64) (o_weights : Nat → Int32) (o_keySlots : Nat → Int32) (o_keyBys : Nat → Int32) (o_keyWays : Nat → Int32) (zr : (Nat → Int32) × (Nat → Int32) × (Nat → Int32) × (Nat → Int64) × (Nat → Int32) × (Nat → Int32) × (Nat → Int32) × (Nat → Int32) × Int32 × Int32 × Int32 × Int64) (hf : f_X0_copyFrom b_kinds b_sizes b_sorts b_numbers b_weights b_keySlots b_keyBys b_keyWays b_keyCount b_sheetSet b_handSort b_handNumber o_kinds o_sizes o_sorts o_numbers o_weights o_keySlots o_keyBys o_keyWays o_keyCount o_sheetSet o_handSort o_handNumber = some zr) : Met l yX0_copyFrom wsX0_copyFrom { frames := 1, cells := 0, slots := 0, locals := 38 } (va_Pc [.ref (b 0), .ref (o 0)] (Pr D cI cJ cZ cQ bs sz [oX0 b b_keyCount b_sheetSet b_handSort b_handNumber, aI cI (b 1) 6 b_kinds, aI cI (b 2) 6 b_sizes, aI cI (b 3) 72 b_sorts, aJ cJ (b 4) 72 b_numbers, aI cI (b 5) 8 b_weights, aI cI (b 6) 4 b_keySlots, aI cI (b 7) 4 b_keyBys, aI cI (b 8) 4 b_keyWays, oX0 o o_keyCount o_sheetSet o_handSort o_handNumber, aI cI (o 1) 6 o_kinds, aI cI (o 2) 6 o_sizes, aI cI (o 3) 72 o_sorts, aJ cJ (o 4) 72 o_numbers, aI cI (o 5) 8 o_weights, aI cI (o 6) 4 o_keySlots, aI cI (o 7) 4 o_keyBys, aI cI (o 8) 4 o_keyWays])) (QwV D zr (fun u => [oX0 b u.2.2.2.2.2.2.2.2.1 u.2.2.2.2.2.2.2.2.2.1 u.2.2.2.2.2.2.2.2.2.2.1 u.2.2.2.2.2.2.2.2.2.2.2, aI cI (b 1) 6 u.1, aI cI (b 2) 6 u.2.1, aI cI (b 3) 72 u.2.2.1, aJ cJ (b 4) 72 u.2.2.2.1, aI cI (b 5) 8 u.2.2.2.2.1, aI cI (b 6) 4 u.2.2.2.2.2.1, aI cI (b 7) 4 u.2.2.2.2.2.2.1, aI cI (b 8) 4 u.2.2.2.2.2.2.2.1, oX0 o o_keyCount o_sheetSet o_handSort o_handNumber, aI cI (o 1) 6 o_kinds, aI cI (o 2) 6 o_sizes, aI cI (o 3) 72 o_sorts, aJ cJ (o 4) 72 o_numbers, aI cI (o 5) 8 o_weights, aI cI (o 6) 4 o_keySlots, aI cI (o 7) 4 o_keyBys, aI cI (o 8) 4 o_keyWays]) (va_A [oX0 b b_keyCount b_sheetSet b_handSort b_handNumber, aI cI (b 1) 6 b_kinds, aI cI (b 2) 6 b_sizes, aI cI (b 3) 72 b_sorts, aJ cJ (b 4) 72 b_numbers, aI cI (b 5) 8 b_weights, aI cI (b 6) 4 b_keySlots, aI cI (b 7) 4 b_keyBys, aI cI (b 8) 4 b_keyWays, oX0 o o_keyCount o_sheetSet o_handSort o_handNumber, aI cI (o 1) 6 o_kinds, aI cI (o 2) 6 o_sizes, aI cI (o 3) 72 o_sorts, aJ cJ (o 4) 72 o_numbers, aI cI (o 5) 8 o_weights, aI cI (o 6) 4 o_keySlots, aI cI (o 7) 4 o_keyBys, aI cI (o 8) 4 o_keyWays] sz)) 0 0 (va_A [oX0 b b_keyCount b_sheetSet b_handSort b_handNumber, aI cI (b 1) 6 b_kinds, aI cI (b 2) 6 b_sizes, aI cI (b 3) 72 b_sorts, aJ cJ (b 4) 72 b_numbers, aI cI (b 5) 8 b_weights, aI cI (b 6) 4 b_keySlots, aI cI (b 7) 4 b_keyBys, aI cI (b 8) 4 b_keyWays, oX0 o o_keyCount o_sheetSet o_handSort o_handNumber, aI cI (o 1) 6 o_kinds, aI cI (o 2) 6 o_sizes, aI cI (o 3) 72 o_sorts, aJ cJ (o 4) 72 o_numbers, aI cI (o 5) 8 o_weights, aI cI (o 6) 4 o_keySlots, aI cI (o 7) 4 o_keyBys, aI cI (o 8) 4 o_keyWays] sz) := by
  refine stW (cc := cX0_copyFrom) (maxL := 2) (ret := none) (Qf := fun A => (QwV D zr (fun u => [oX0 b u.2.2.2.2.2.2.2.2.1 u.2.2.2.2.2.2.2.2.2.1 u.2.2.2.2.2.2.2.2.2.2.1 u.2.2.2.2.2.2.2.2.2.2.2, aI cI (b 1) 6 u.1, aI cI (b 2) 6 u.2.1, aI cI (b 3) 72 u.2.2.1, aJ cJ (b 4) 72 u.2.2.2.1, aI cI (b 5) 8 u.2.2.2.2.1, aI cI (b 6) 4 u.2.2.2.2.2.1, aI cI (b 7) 4 u.2.2.2.2.2.2.1, aI cI (b 8) 4 u.2.2.2.2.2.2.2.1, oX0 o o_keyCount o_sheetSet o_handSort o_handNumber, aI cI (o 1) 6 o_kinds, aI cI (o 2) 6 o_sizes, aI cI (o 3) 72 o_sorts, aJ cJ (o 4) 72 o_numbers, aI cI (o 5) 8 o_weights, aI cI (o 6) 4 o_keySlots, aI cI (o 7) 4 o_keyBys, aI cI (o 8) 4 o_keyWays]) A)) (by decide +kernel) rfl (Nat.le_of_ble_eq_true rfl) ?_
  intro p e s m args below meth c A C0 hr hlocks hname hsz hP hD hA hAb hE ls hl
  obtain ⟨hx, hb, hml, hown, hts⟩ := id C0
  have hown : s.vm.findClass RX0 = some m.cls := hown
  obtain ⟨hK, hNW, -, tw, hZ, hT⟩ := id hE
  have hl : lv_has ls 2 [(0, .ref (b 0)), (1, .ref (o 0))] := hl
  have hS : va_S A s.heap s.heap [] := va_S.rf
  have hI_X0 := (show ∀ w ∈ wsX00, w ∈ wsX0_copyFrom by decide +kernel)
  have gf9 := hts (.fieldLink RX0 9 "RowRanks$Bench" "kinds" "[I") (by decide +kernel)
  have gl41 := hts (.methodLink RX0 41 arraycopyName) (by decide +kernel)
  have gs2 := hts (.native arraycopyName) (by decide +kernel)
  have gs3 := hts (.static arraycopyName) (by decide +kernel)
  have gs4 := hts (.initialized "java/lang/System") (by decide +kernel)
  have gf15 := hts (.fieldLink RX0 15 "RowRanks$Bench" "sizes" "[I") (by decide +kernel)
  have gf18 := hts (.fieldLink RX0 18 "RowRanks$Bench" "sorts" "[I") (by decide +kernel)
  have gf21 := hts (.fieldLink RX0 21 "RowRanks$Bench" "numbers" "[J") (by decide +kernel)
  have gf25 := hts (.fieldLink RX0 25 "RowRanks$Bench" "weights" "[I") (by decide +kernel)
  have gf28 := hts (.fieldLink RX0 28 "RowRanks$Bench" "keySlots" "[I") (by decide +kernel)
  have gf31 := hts (.fieldLink RX0 31 "RowRanks$Bench" "keyBys" "[I") (by decide +kernel)
  have gf34 := hts (.fieldLink RX0 34 "RowRanks$Bench" "keyWays" "[I") (by decide +kernel)
  have gf47 := hts (.fieldLink RX0 47 "RowRanks$Bench" "keyCount" "I") (by decide +kernel)
  have gf50 := hts (.fieldLink RX0 50 "RowRanks$Bench" "sheetSet" "I") (by decide +kernel)
  have gf37 := hts (.fieldLink RX0 37 "RowRanks$Bench" "handSort" "I") (by decide +kernel)
  have gf53 := hts (.fieldLink RX0 53 "RowRanks$Bench" "handNumber" "J") (by decide +kernel)
  unfold f_X0_copyFrom at hf
  have go : ∀ (H : Heap) (locs : List Loc), va_P D vwCl [oX0 b b_keyCount b_sheetSet b_handSort b_handNumber, aI cI (b 1) 6 b_kinds, aI cI (b 2) 6 b_sizes, aI cI (b 3) 72 b_sorts, aJ cJ (b 4) 72 b_numbers, aI cI (b 5) 8 b_weights, aI cI (b 6) 4 b_keySlots, aI cI (b 7) 4 b_keyBys, aI cI (b 8) 4 b_keyWays, oX0 o o_keyCount o_sheetSet o_handSort o_handNumber, aI cI (o 1) 6 o_kinds, aI cI (o 2) 6 o_sizes, aI cI (o 3) 72 o_sorts, aJ cJ (o 4) 72 o_numbers, aI cI (o 5) 8 o_weights, aI cI (o 6) 4 o_keySlots, aI cI (o 7) 4 o_keyBys, aI cI (o 8) 4 o_keyWays] H → va_S A s.heap H locs → W p l e { frames := 1, cells := 0, slots := 0, locals := 38 } s m args below meth c H locs 0 0 (MQ below (QwV D zr (fun u => [oX0 b u.2.2.2.2.2.2.2.2.1 u.2.2.2.2.2.2.2.2.2.1 u.2.2.2.2.2.2.2.2.2.2.1 u.2.2.2.2.2.2.2.2.2.2.2, aI cI (b 1) 6 u.1, aI cI (b 2) 6 u.2.1, aI cI (b 3) 72 u.2.2.1, aJ cJ (b 4) 72 u.2.2.2.1, aI cI (b 5) 8 u.2.2.2.2.1, aI cI (b 6) 4 u.2.2.2.2.2.1, aI cI (b 7) 4 u.2.2.2.2.2.2.1, aI cI (b 8) 4 u.2.2.2.2.2.2.2.1, oX0 o o_keyCount o_sheetSet o_handSort o_handNumber, aI cI (o 1) 6 o_kinds, aI cI (o 2) 6 o_sizes, aI cI (o 3) 72 o_sorts, aJ cJ (o 4) 72 o_numbers, aI cI (o 5) 8 o_weights, aI cI (o 6) 4 o_keySlots, aI cI (o 7) 4 o_keyBys, aI cI (o 8) 4 o_keyWays]) A) args s 0 0 A) (F0 m 0 ls []) := by
    intro H locs hP hS
    refine lv_aload_n hx hb dX0_copyFrom_0 rfl (lv_at hl 1 rfl) ?_
    refine va_get (D := D) (ci := 0) (v := .ref (o 1)) (C := RX0) (T := TX0) (N := 12) hx hb hts hI_X0 hown hK hP 9 rfl rfl 0 (by decide) gf9 (fun _ h9 => h9) rfl dX0_copyFrom_1 ?_
    refine lv_iconst (v := 0) hx hb dX0_copyFrom_4 (by decide) ?_
    refine lv_aload_n hx hb dX0_copyFrom_5 rfl (lv_at hl 0 rfl) ?_
    refine va_get (D := D) (ci := 0) (v := .ref (b 1)) (C := RX0) (T := TX0) (N := 12) hx hb hts hI_X0 hown hK hP 0 rfl rfl 0 (by decide) gf9 (fun _ h9 => h9) rfl dX0_copyFrom_6 ?_
    refine lv_iconst (v := 0) hx hb dX0_copyFrom_9 (by decide) ?_
    refine lv_bipush (v := 6) hx hb dX0_copyFrom_10 (by decide) ?_
    refine va_copyi (ty := .int) hx hb (hml.trans hl.1.symm) hown gl41 gs2 gs3 gs4 hK hP (hD.addr rfl) hS 10 1 0 0 rfl rfl rfl rfl rfl (by decide) (by decide) (by decide) (by decide) (by decide) (fun _ _ => rfl) (Nat.le_of_ble_eq_true rfl) (Nat.le_of_ble_eq_true rfl) dX0_copyFrom_12 (fun H locs hP _ hS => ?_)
    have hP : va_P D vwCl [oX0 b b_keyCount b_sheetSet b_handSort b_handNumber, aI cI (b 1) 6 (va_cpy o_kinds b_kinds 0 0 6), aI cI (b 2) 6 b_sizes, aI cI (b 3) 72 b_sorts, aJ cJ (b 4) 72 b_numbers, aI cI (b 5) 8 b_weights, aI cI (b 6) 4 b_keySlots, aI cI (b 7) 4 b_keyBys, aI cI (b 8) 4 b_keyWays, oX0 o o_keyCount o_sheetSet o_handSort o_handNumber, aI cI (o 1) 6 o_kinds, aI cI (o 2) 6 o_sizes, aI cI (o 3) 72 o_sorts, aJ cJ (o 4) 72 o_numbers, aI cI (o 5) 8 o_weights, aI cI (o 6) 4 o_keySlots, aI cI (o 7) 4 o_keyBys, aI cI (o 8) 4 o_keyWays] H := hP
    refine lv_aload_n hx hb dX0_copyFrom_15 rfl (lv_at hl 1 rfl) ?_
    refine va_get (D := D) (ci := 0) (v := .ref (o 2)) (C := RX0) (T := TX0) (N := 12) hx hb hts hI_X0 hown hK hP 9 rfl rfl 1 (by decide) gf15 (fun _ h9 => h9) rfl dX0_copyFrom_16 ?_
    refine lv_iconst (v := 0) hx hb dX0_copyFrom_19 (by decide) ?_
    refine lv_aload_n hx hb dX0_copyFrom_20 rfl (lv_at hl 0 rfl) ?_
    refine va_get (D := D) (ci := 0) (v := .ref (b 2)) (C := RX0) (T := TX0) (N := 12) hx hb hts hI_X0 hown hK hP 0 rfl rfl 1 (by decide) gf15 (fun _ h9 => h9) rfl dX0_copyFrom_21 ?_
    refine lv_iconst (v := 0) hx hb dX0_copyFrom_24 (by decide) ?_
    refine lv_bipush (v := 6) hx hb dX0_copyFrom_25 (by decide) ?_
    refine va_copyi (ty := .int) hx hb (hml.trans hl.1.symm) hown gl41 gs2 gs3 gs4 hK hP (hD.addr rfl) hS 11 2 0 0 rfl rfl rfl rfl rfl (by decide) (by decide) (by decide) (by decide) (by decide) (fun _ _ => rfl) (Nat.le_of_ble_eq_true rfl) (Nat.le_of_ble_eq_true rfl) dX0_copyFrom_27 (fun H locs hP _ hS => ?_)
    have hP : va_P D vwCl [oX0 b b_keyCount b_sheetSet b_handSort b_handNumber, aI cI (b 1) 6 (va_cpy o_kinds b_kinds 0 0 6), aI cI (b 2) 6 (va_cpy o_sizes b_sizes 0 0 6), aI cI (b 3) 72 b_sorts, aJ cJ (b 4) 72 b_numbers, aI cI (b 5) 8 b_weights, aI cI (b 6) 4 b_keySlots, aI cI (b 7) 4 b_keyBys, aI cI (b 8) 4 b_keyWays, oX0 o o_keyCount o_sheetSet o_handSort o_handNumber, aI cI (o 1) 6 o_kinds, aI cI (o 2) 6 o_sizes, aI cI (o 3) 72 o_sorts, aJ cJ (o 4) 72 o_numbers, aI cI (o 5) 8 o_weights, aI cI (o 6) 4 o_keySlots, aI cI (o 7) 4 o_keyBys, aI cI (o 8) 4 o_keyWays] H := hP
    refine lv_aload_n hx hb dX0_copyFrom_30 rfl (lv_at hl 1 rfl) ?_
    refine va_get (D := D) (ci := 0) (v := .ref (o 3)) (C := RX0) (T := TX0) (N := 12) hx hb hts hI_X0 hown hK hP 9 rfl rfl 2 (by decide) gf18 (fun _ h9 => h9) rfl dX0_copyFrom_31 ?_
    refine lv_iconst (v := 0) hx hb dX0_copyFrom_34 (by decide) ?_
    refine lv_aload_n hx hb dX0_copyFrom_35 rfl (lv_at hl 0 rfl) ?_
    refine va_get (D := D) (ci := 0) (v := .ref (b 3)) (C := RX0) (T := TX0) (N := 12) hx hb hts hI_X0 hown hK hP 0 rfl rfl 2 (by decide) gf18 (fun _ h9 => h9) rfl dX0_copyFrom_36 ?_
    refine lv_iconst (v := 0) hx hb dX0_copyFrom_39 (by decide) ?_
    refine lv_bipush (v := 72) hx hb dX0_copyFrom_40 (by decide) ?_
    refine va_copyi (ty := .int) hx hb (hml.trans hl.1.symm) hown gl41 gs2 gs3 gs4 hK hP (hD.addr rfl) hS 12 3 0 0 rfl rfl rfl rfl rfl (by decide) (by decide) (by decide) (by decide) (by decide) (fun _ _ => rfl) (Nat.le_of_ble_eq_true rfl) (Nat.le_of_ble_eq_true rfl) dX0_copyFrom_42 (fun H locs hP _ hS => ?_)
    have hP : va_P D vwCl [oX0 b b_keyCount b_sheetSet b_handSort b_handNumber, aI cI (b 1) 6 (va_cpy o_kinds b_kinds 0 0 6), aI cI (b 2) 6 (va_cpy o_sizes b_sizes 0 0 6), aI cI (b 3) 72 (va_cpy o_sorts b_sorts 0 0 72), aJ cJ (b 4) 72 b_numbers, aI cI (b 5) 8 b_weights, aI cI (b 6) 4 b_keySlots, aI cI (b 7) 4 b_keyBys, aI cI (b 8) 4 b_keyWays, oX0 o o_keyCount o_sheetSet o_handSort o_handNumber, aI cI (o 1) 6 o_kinds, aI cI (o 2) 6 o_sizes, aI cI (o 3) 72 o_sorts, aJ cJ (o 4) 72 o_numbers, aI cI (o 5) 8 o_weights, aI cI (o 6) 4 o_keySlots, aI cI (o 7) 4 o_keyBys, aI cI (o 8) 4 o_keyWays] H := hP
    refine lv_aload_n hx hb dX0_copyFrom_45 rfl (lv_at hl 1 rfl) ?_
    refine va_get (D := D) (ci := 0) (v := .ref (o 4)) (C := RX0) (T := TX0) (N := 12) hx hb hts hI_X0 hown hK hP 9 rfl rfl 3 (by decide) gf21 (fun _ h9 => h9) rfl dX0_copyFrom_46 ?_
    refine lv_iconst (v := 0) hx hb dX0_copyFrom_49 (by decide) ?_
    refine lv_aload_n hx hb dX0_copyFrom_50 rfl (lv_at hl 0 rfl) ?_
    refine va_get (D := D) (ci := 0) (v := .ref (b 4)) (C := RX0) (T := TX0) (N := 12) hx hb hts hI_X0 hown hK hP 0 rfl rfl 3 (by decide) gf21 (fun _ h9 => h9) rfl dX0_copyFrom_51 ?_
    refine lv_iconst (v := 0) hx hb dX0_copyFrom_54 (by decide) ?_
    refine lv_bipush (v := 72) hx hb dX0_copyFrom_55 (by decide) ?_
    refine va_copyl (ty := .long) hx hb (hml.trans hl.1.symm) hown gl41 gs2 gs3 gs4 hK hP (hD.addr rfl) hS 13 4 1 1 rfl rfl rfl rfl rfl (by decide) (by decide) (by decide) (by decide) (by decide) (fun _ _ => rfl) (Nat.le_of_ble_eq_true rfl) (Nat.le_of_ble_eq_true rfl) dX0_copyFrom_57 (fun H locs hP _ hS => ?_)
    have hP : va_P D vwCl [oX0 b b_keyCount b_sheetSet b_handSort b_handNumber, aI cI (b 1) 6 (va_cpy o_kinds b_kinds 0 0 6), aI cI (b 2) 6 (va_cpy o_sizes b_sizes 0 0 6), aI cI (b 3) 72 (va_cpy o_sorts b_sorts 0 0 72), aJ cJ (b 4) 72 (va_cpy o_numbers b_numbers 0 0 72), aI cI (b 5) 8 b_weights, aI cI (b 6) 4 b_keySlots, aI cI (b 7) 4 b_keyBys, aI cI (b 8) 4 b_keyWays, oX0 o o_keyCount o_sheetSet o_handSort o_handNumber, aI cI (o 1) 6 o_kinds, aI cI (o 2) 6 o_sizes, aI cI (o 3) 72 o_sorts, aJ cJ (o 4) 72 o_numbers, aI cI (o 5) 8 o_weights, aI cI (o 6) 4 o_keySlots, aI cI (o 7) 4 o_keyBys, aI cI (o 8) 4 o_keyWays] H := hP
    refine lv_aload_n hx hb dX0_copyFrom_60 rfl (lv_at hl 1 rfl) ?_
    refine va_get (D := D) (ci := 0) (v := .ref (o 5)) (C := RX0) (T := TX0) (N := 12) hx hb hts hI_X0 hown hK hP 9 rfl rfl 4 (by decide) gf25 (fun _ h9 => h9) rfl dX0_copyFrom_61 ?_
    refine lv_iconst (v := 0) hx hb dX0_copyFrom_64 (by decide) ?_
    refine lv_aload_n hx hb dX0_copyFrom_65 rfl (lv_at hl 0 rfl) ?_
    refine va_get (D := D) (ci := 0) (v := .ref (b 5)) (C := RX0) (T := TX0) (N := 12) hx hb hts hI_X0 hown hK hP 0 rfl rfl 4 (by decide) gf25 (fun _ h9 => h9) rfl dX0_copyFrom_66 ?_
    refine lv_iconst (v := 0) hx hb dX0_copyFrom_69 (by decide) ?_
    refine lv_bipush (v := 8) hx hb dX0_copyFrom_70 (by decide) ?_
    refine va_copyi (ty := .int) hx hb (hml.trans hl.1.symm) hown gl41 gs2 gs3 gs4 hK hP (hD.addr rfl) hS 14 5 0 0 rfl rfl rfl rfl rfl (by decide) (by decide) (by decide) (by decide) (by decide) (fun _ _ => rfl) (Nat.le_of_ble_eq_true rfl) (Nat.le_of_ble_eq_true rfl) dX0_copyFrom_72 (fun H locs hP _ hS => ?_)
    have hP : va_P D vwCl [oX0 b b_keyCount b_sheetSet b_handSort b_handNumber, aI cI (b 1) 6 (va_cpy o_kinds b_kinds 0 0 6), aI cI (b 2) 6 (va_cpy o_sizes b_sizes 0 0 6), aI cI (b 3) 72 (va_cpy o_sorts b_sorts 0 0 72), aJ cJ (b 4) 72 (va_cpy o_numbers b_numbers 0 0 72), aI cI (b 5) 8 (va_cpy o_weights b_weights 0 0 8), aI cI (b 6) 4 b_keySlots, aI cI (b 7) 4 b_keyBys, aI cI (b 8) 4 b_keyWays, oX0 o o_keyCount o_sheetSet o_handSort o_handNumber, aI cI (o 1) 6 o_kinds, aI cI (o 2) 6 o_sizes, aI cI (o 3) 72 o_sorts, aJ cJ (o 4) 72 o_numbers, aI cI (o 5) 8 o_weights, aI cI (o 6) 4 o_keySlots, aI cI (o 7) 4 o_keyBys, aI cI (o 8) 4 o_keyWays] H := hP
    refine lv_aload_n hx hb dX0_copyFrom_75 rfl (lv_at hl 1 rfl) ?_
    refine va_get (D := D) (ci := 0) (v := .ref (o 6)) (C := RX0) (T := TX0) (N := 12) hx hb hts hI_X0 hown hK hP 9 rfl rfl 5 (by decide) gf28 (fun _ h9 => h9) rfl dX0_copyFrom_76 ?_
    refine lv_iconst (v := 0) hx hb dX0_copyFrom_79 (by decide) ?_
    refine lv_aload_n hx hb dX0_copyFrom_80 rfl (lv_at hl 0 rfl) ?_
    refine va_get (D := D) (ci := 0) (v := .ref (b 6)) (C := RX0) (T := TX0) (N := 12) hx hb hts hI_X0 hown hK hP 0 rfl rfl 5 (by decide) gf28 (fun _ h9 => h9) rfl dX0_copyFrom_81 ?_
    refine lv_iconst (v := 0) hx hb dX0_copyFrom_84 (by decide) ?_
    refine lv_iconst (v := 4) hx hb dX0_copyFrom_85 (by decide) ?_
    refine va_copyi (ty := .int) hx hb (hml.trans hl.1.symm) hown gl41 gs2 gs3 gs4 hK hP (hD.addr rfl) hS 15 6 0 0 rfl rfl rfl rfl rfl (by decide) (by decide) (by decide) (by decide) (by decide) (fun _ _ => rfl) (Nat.le_of_ble_eq_true rfl) (Nat.le_of_ble_eq_true rfl) dX0_copyFrom_86 (fun H locs hP _ hS => ?_)
    have hP : va_P D vwCl [oX0 b b_keyCount b_sheetSet b_handSort b_handNumber, aI cI (b 1) 6 (va_cpy o_kinds b_kinds 0 0 6), aI cI (b 2) 6 (va_cpy o_sizes b_sizes 0 0 6), aI cI (b 3) 72 (va_cpy o_sorts b_sorts 0 0 72), aJ cJ (b 4) 72 (va_cpy o_numbers b_numbers 0 0 72), aI cI (b 5) 8 (va_cpy o_weights b_weights 0 0 8), aI cI (b 6) 4 (va_cpy o_keySlots b_keySlots 0 0 4), aI cI (b 7) 4 b_keyBys, aI cI (b 8) 4 b_keyWays, oX0 o o_keyCount o_sheetSet o_handSort o_handNumber, aI cI (o 1) 6 o_kinds, aI cI (o 2) 6 o_sizes, aI cI (o 3) 72 o_sorts, aJ cJ (o 4) 72 o_numbers, aI cI (o 5) 8 o_weights, aI cI (o 6) 4 o_keySlots, aI cI (o 7) 4 o_keyBys, aI cI (o 8) 4 o_keyWays] H := hP
    refine lv_aload_n hx hb dX0_copyFrom_89 rfl (lv_at hl 1 rfl) ?_
    refine va_get (D := D) (ci := 0) (v := .ref (o 7)) (C := RX0) (T := TX0) (N := 12) hx hb hts hI_X0 hown hK hP 9 rfl rfl 6 (by decide) gf31 (fun _ h9 => h9) rfl dX0_copyFrom_90 ?_
    refine lv_iconst (v := 0) hx hb dX0_copyFrom_93 (by decide) ?_
    refine lv_aload_n hx hb dX0_copyFrom_94 rfl (lv_at hl 0 rfl) ?_
    refine va_get (D := D) (ci := 0) (v := .ref (b 7)) (C := RX0) (T := TX0) (N := 12) hx hb hts hI_X0 hown hK hP 0 rfl rfl 6 (by decide) gf31 (fun _ h9 => h9) rfl dX0_copyFrom_95 ?_
    refine lv_iconst (v := 0) hx hb dX0_copyFrom_98 (by decide) ?_
    refine lv_iconst (v := 4) hx hb dX0_copyFrom_99 (by decide) ?_
    refine va_copyi (ty := .int) hx hb (hml.trans hl.1.symm) hown gl41 gs2 gs3 gs4 hK hP (hD.addr rfl) hS 16 7 0 0 rfl rfl rfl rfl rfl (by decide) (by decide) (by decide) (by decide) (by decide) (fun _ _ => rfl) (Nat.le_of_ble_eq_true rfl) (Nat.le_of_ble_eq_true rfl) dX0_copyFrom_100 (fun H locs hP _ hS => ?_)
    have hP : va_P D vwCl [oX0 b b_keyCount b_sheetSet b_handSort b_handNumber, aI cI (b 1) 6 (va_cpy o_kinds b_kinds 0 0 6), aI cI (b 2) 6 (va_cpy o_sizes b_sizes 0 0 6), aI cI (b 3) 72 (va_cpy o_sorts b_sorts 0 0 72), aJ cJ (b 4) 72 (va_cpy o_numbers b_numbers 0 0 72), aI cI (b 5) 8 (va_cpy o_weights b_weights 0 0 8), aI cI (b 6) 4 (va_cpy o_keySlots b_keySlots 0 0 4), aI cI (b 7) 4 (va_cpy o_keyBys b_keyBys 0 0 4), aI cI (b 8) 4 b_keyWays, oX0 o o_keyCount o_sheetSet o_handSort o_handNumber, aI cI (o 1) 6 o_kinds, aI cI (o 2) 6 o_sizes, aI cI (o 3) 72 o_sorts, aJ cJ (o 4) 72 o_numbers, aI cI (o 5) 8 o_weights, aI cI (o 6) 4 o_keySlots, aI cI (o 7) 4 o_keyBys, aI cI (o 8) 4 o_keyWays] H := hP
    refine lv_aload_n hx hb dX0_copyFrom_103 rfl (lv_at hl 1 rfl) ?_
    refine va_get (D := D) (ci := 0) (v := .ref (o 8)) (C := RX0) (T := TX0) (N := 12) hx hb hts hI_X0 hown hK hP 9 rfl rfl 7 (by decide) gf34 (fun _ h9 => h9) rfl dX0_copyFrom_104 ?_
    refine lv_iconst (v := 0) hx hb dX0_copyFrom_107 (by decide) ?_
    refine lv_aload_n hx hb dX0_copyFrom_108 rfl (lv_at hl 0 rfl) ?_
    refine va_get (D := D) (ci := 0) (v := .ref (b 8)) (C := RX0) (T := TX0) (N := 12) hx hb hts hI_X0 hown hK hP 0 rfl rfl 7 (by decide) gf34 (fun _ h9 => h9) rfl dX0_copyFrom_109 ?_
    refine lv_iconst (v := 0) hx hb dX0_copyFrom_112 (by decide) ?_
    refine lv_iconst (v := 4) hx hb dX0_copyFrom_113 (by decide) ?_
    refine va_copyi (ty := .int) hx hb (hml.trans hl.1.symm) hown gl41 gs2 gs3 gs4 hK hP (hD.addr rfl) hS 17 8 0 0 rfl rfl rfl rfl rfl (by decide) (by decide) (by decide) (by decide) (by decide) (fun _ _ => rfl) (Nat.le_of_ble_eq_true rfl) (Nat.le_of_ble_eq_true rfl) dX0_copyFrom_114 (fun H locs hP _ hS => ?_)
    have hP : va_P D vwCl [oX0 b b_keyCount b_sheetSet b_handSort b_handNumber, aI cI (b 1) 6 (va_cpy o_kinds b_kinds 0 0 6), aI cI (b 2) 6 (va_cpy o_sizes b_sizes 0 0 6), aI cI (b 3) 72 (va_cpy o_sorts b_sorts 0 0 72), aJ cJ (b 4) 72 (va_cpy o_numbers b_numbers 0 0 72), aI cI (b 5) 8 (va_cpy o_weights b_weights 0 0 8), aI cI (b 6) 4 (va_cpy o_keySlots b_keySlots 0 0 4), aI cI (b 7) 4 (va_cpy o_keyBys b_keyBys 0 0 4), aI cI (b 8) 4 (va_cpy o_keyWays b_keyWays 0 0 4), oX0 o o_keyCount o_sheetSet o_handSort o_handNumber, aI cI (o 1) 6 o_kinds, aI cI (o 2) 6 o_sizes, aI cI (o 3) 72 o_sorts, aJ cJ (o 4) 72 o_numbers, aI cI (o 5) 8 o_weights, aI cI (o 6) 4 o_keySlots, aI cI (o 7) 4 o_keyBys, aI cI (o 8) 4 o_keyWays] H := hP
    refine lv_aload_n hx hb dX0_copyFrom_117 rfl (lv_at hl 0 rfl) ?_
    refine lv_aload_n hx hb dX0_copyFrom_118 rfl (lv_at hl 1 rfl) ?_
    refine va_get (D := D) (ci := 0) (v := .int o_keyCount) (C := RX0) (T := TX0) (N := 12) hx hb hts hI_X0 hown hK hP 9 rfl rfl 8 (by decide) gf47 (fun _ h9 => h9) rfl dX0_copyFrom_119 ?_
    refine va_put (D := D) (ci := 0) (v := .int o_keyCount) (ty := .int) (C := RX0) (T := TX0) (N := 12) hx hb hts hI_X0 tyX0 tyX0_ok nmX0 hown hK hP (hD.addr rfl) hS 0 rfl rfl 8 (by decide) gf47 (fun _ h9 => h9) rfl (by decide +kernel) rfl rfl (Nat.le_of_ble_eq_true rfl) dX0_copyFrom_122 (fun H locs hP _ hS => ?_)
    have hP : va_P D vwCl [oX0 b o_keyCount b_sheetSet b_handSort b_handNumber, aI cI (b 1) 6 (va_cpy o_kinds b_kinds 0 0 6), aI cI (b 2) 6 (va_cpy o_sizes b_sizes 0 0 6), aI cI (b 3) 72 (va_cpy o_sorts b_sorts 0 0 72), aJ cJ (b 4) 72 (va_cpy o_numbers b_numbers 0 0 72), aI cI (b 5) 8 (va_cpy o_weights b_weights 0 0 8), aI cI (b 6) 4 (va_cpy o_keySlots b_keySlots 0 0 4), aI cI (b 7) 4 (va_cpy o_keyBys b_keyBys 0 0 4), aI cI (b 8) 4 (va_cpy o_keyWays b_keyWays 0 0 4), oX0 o o_keyCount o_sheetSet o_handSort o_handNumber, aI cI (o 1) 6 o_kinds, aI cI (o 2) 6 o_sizes, aI cI (o 3) 72 o_sorts, aJ cJ (o 4) 72 o_numbers, aI cI (o 5) 8 o_weights, aI cI (o 6) 4 o_keySlots, aI cI (o 7) 4 o_keyBys, aI cI (o 8) 4 o_keyWays] H := hP
    refine lv_aload_n hx hb dX0_copyFrom_125 rfl (lv_at hl 0 rfl) ?_
    refine lv_aload_n hx hb dX0_copyFrom_126 rfl (lv_at hl 1 rfl) ?_
    refine va_get (D := D) (ci := 0) (v := .int o_sheetSet) (C := RX0) (T := TX0) (N := 12) hx hb hts hI_X0 hown hK hP 9 rfl rfl 9 (by decide) gf50 (fun _ h9 => h9) rfl dX0_copyFrom_127 ?_
    refine va_put (D := D) (ci := 0) (v := .int o_sheetSet) (ty := .int) (C := RX0) (T := TX0) (N := 12) hx hb hts hI_X0 tyX0 tyX0_ok nmX0 hown hK hP (hD.addr rfl) hS 0 rfl rfl 9 (by decide) gf50 (fun _ h9 => h9) rfl (by decide +kernel) rfl rfl (Nat.le_of_ble_eq_true rfl) dX0_copyFrom_130 (fun H locs hP _ hS => ?_)
    have hP : va_P D vwCl [oX0 b o_keyCount o_sheetSet b_handSort b_handNumber, aI cI (b 1) 6 (va_cpy o_kinds b_kinds 0 0 6), aI cI (b 2) 6 (va_cpy o_sizes b_sizes 0 0 6), aI cI (b 3) 72 (va_cpy o_sorts b_sorts 0 0 72), aJ cJ (b 4) 72 (va_cpy o_numbers b_numbers 0 0 72), aI cI (b 5) 8 (va_cpy o_weights b_weights 0 0 8), aI cI (b 6) 4 (va_cpy o_keySlots b_keySlots 0 0 4), aI cI (b 7) 4 (va_cpy o_keyBys b_keyBys 0 0 4), aI cI (b 8) 4 (va_cpy o_keyWays b_keyWays 0 0 4), oX0 o o_keyCount o_sheetSet o_handSort o_handNumber, aI cI (o 1) 6 o_kinds, aI cI (o 2) 6 o_sizes, aI cI (o 3) 72 o_sorts, aJ cJ (o 4) 72 o_numbers, aI cI (o 5) 8 o_weights, aI cI (o 6) 4 o_keySlots, aI cI (o 7) 4 o_keyBys, aI cI (o 8) 4 o_keyWays] H := hP
    refine lv_aload_n hx hb dX0_copyFrom_133 rfl (lv_at hl 0 rfl) ?_
    refine lv_aload_n hx hb dX0_copyFrom_134 rfl (lv_at hl 1 rfl) ?_
    refine va_get (D := D) (ci := 0) (v := .int o_handSort) (C := RX0) (T := TX0) (N := 12) hx hb hts hI_X0 hown hK hP 9 rfl rfl 10 (by decide) gf37 (fun _ h9 => h9) rfl dX0_copyFrom_135 ?_
    refine va_put (D := D) (ci := 0) (v := .int o_handSort) (ty := .int) (C := RX0) (T := TX0) (N := 12) hx hb hts hI_X0 tyX0 tyX0_ok nmX0 hown hK hP (hD.addr rfl) hS 0 rfl rfl 10 (by decide) gf37 (fun _ h9 => h9) rfl (by decide +kernel) rfl rfl (Nat.le_of_ble_eq_true rfl) dX0_copyFrom_138 (fun H locs hP _ hS => ?_)
    have hP : va_P D vwCl [oX0 b o_keyCount o_sheetSet o_handSort b_handNumber, aI cI (b 1) 6 (va_cpy o_kinds b_kinds 0 0 6), aI cI (b 2) 6 (va_cpy o_sizes b_sizes 0 0 6), aI cI (b 3) 72 (va_cpy o_sorts b_sorts 0 0 72), aJ cJ (b 4) 72 (va_cpy o_numbers b_numbers 0 0 72), aI cI (b 5) 8 (va_cpy o_weights b_weights 0 0 8), aI cI (b 6) 4 (va_cpy o_keySlots b_keySlots 0 0 4), aI cI (b 7) 4 (va_cpy o_keyBys b_keyBys 0 0 4), aI cI (b 8) 4 (va_cpy o_keyWays b_keyWays 0 0 4), oX0 o o_keyCount o_sheetSet o_handSort o_handNumber, aI cI (o 1) 6 o_kinds, aI cI (o 2) 6 o_sizes, aI cI (o 3) 72 o_sorts, aJ cJ (o 4) 72 o_numbers, aI cI (o 5) 8 o_weights, aI cI (o 6) 4 o_keySlots, aI cI (o 7) 4 o_keyBys, aI cI (o 8) 4 o_keyWays] H := hP
    refine lv_aload_n hx hb dX0_copyFrom_141 rfl (lv_at hl 0 rfl) ?_
    refine lv_aload_n hx hb dX0_copyFrom_142 rfl (lv_at hl 1 rfl) ?_
    refine va_get (D := D) (ci := 0) (v := .long o_handNumber) (C := RX0) (T := TX0) (N := 12) hx hb hts hI_X0 hown hK hP 9 rfl rfl 11 (by decide) gf53 (fun _ h9 => h9) rfl dX0_copyFrom_143 ?_
    refine va_put (D := D) (ci := 0) (v := .long o_handNumber) (ty := .long) (C := RX0) (T := TX0) (N := 12) hx hb hts hI_X0 tyX0 tyX0_ok nmX0 hown hK hP (hD.addr rfl) hS 0 rfl rfl 11 (by decide) gf53 (fun _ h9 => h9) rfl (by decide +kernel) rfl rfl (Nat.le_of_ble_eq_true rfl) dX0_copyFrom_146 (fun H locs hP _ hS => ?_)
    have hP : va_P D vwCl [oX0 b o_keyCount o_sheetSet o_handSort o_handNumber, aI cI (b 1) 6 (va_cpy o_kinds b_kinds 0 0 6), aI cI (b 2) 6 (va_cpy o_sizes b_sizes 0 0 6), aI cI (b 3) 72 (va_cpy o_sorts b_sorts 0 0 72), aJ cJ (b 4) 72 (va_cpy o_numbers b_numbers 0 0 72), aI cI (b 5) 8 (va_cpy o_weights b_weights 0 0 8), aI cI (b 6) 4 (va_cpy o_keySlots b_keySlots 0 0 4), aI cI (b 7) 4 (va_cpy o_keyBys b_keyBys 0 0 4), aI cI (b 8) 4 (va_cpy o_keyWays b_keyWays 0 0 4), oX0 o o_keyCount o_sheetSet o_handSort o_handNumber, aI cI (o 1) 6 o_kinds, aI cI (o 2) 6 o_sizes, aI cI (o 3) 72 o_sorts, aJ cJ (o 4) 72 o_numbers, aI cI (o 5) 8 o_weights, aI cI (o 6) 4 o_keySlots, aI cI (o 7) 4 o_keyBys, aI cI (o 8) 4 o_keyWays] H := hP
    have er := Option.some.inj hf
    exact rwV (wm := (fun u => [oX0 b u.2.2.2.2.2.2.2.2.1 u.2.2.2.2.2.2.2.2.2.1 u.2.2.2.2.2.2.2.2.2.2.1 u.2.2.2.2.2.2.2.2.2.2.2, aI cI (b 1) 6 u.1, aI cI (b 2) 6 u.2.1, aI cI (b 3) 72 u.2.2.1, aJ cJ (b 4) 72 u.2.2.2.1, aI cI (b 5) 8 u.2.2.2.2.1, aI cI (b 6) 4 u.2.2.2.2.2.1, aI cI (b 7) 4 u.2.2.2.2.2.2.1, aI cI (b 8) 4 u.2.2.2.2.2.2.2.1, oX0 o o_keyCount o_sheetSet o_handSort o_handNumber, aI cI (o 1) 6 o_kinds, aI cI (o 2) 6 o_sizes, aI cI (o 3) 72 o_sorts, aJ cJ (o 4) 72 o_numbers, aI cI (o 5) 8 o_weights, aI cI (o 6) 4 o_keySlots, aI cI (o 7) 4 o_keyBys, aI cI (o 8) 4 o_keyWays])) hx hb hr hS dX0_copyFrom_149 hP er hlocks
  exact go s.heap [] hP hS
noncomputable def f_X0_whyNotRead (b_kinds : Nat → Int32) (b_sizes : Nat → Int32) (x1 : Int32) (x2 : Int32) (x3 : Int32) : Option (Int32) := (f_X0_whyNotReach b_kinds b_sizes x1 x2).bind (fun z1 => if z1 = 0 then ((f_X0_canRead b_kinds x1 x3).bind (fun z3 => if z3 = 0 then (some (4)) else (some (z1)))) else (some (z1)))
set_option maxHeartbeats 4000000 in
set_option maxRecDepth 100000 in
theorem c_X0_whyNotRead (l : Launch) (D : va_G) (cI cJ cZ cQ : ClassId) (bs sz : Nat) (b : Nat → Nat) (b_keyCount : Int32) (b_sheetSet : Int32) (b_handSort : Int32) (b_handNumber : Int64) (b_kinds : Nat → Int32) (b_sizes : Nat → Int32) (x1 : Int32) (x2 : Int32) (x3 : Int32) (zr : Int32) (hf : f_X0_whyNotRead b_kinds b_sizes x1 x2 x3 = some zr) : Met l yX0_whyNotRead wsX0_whyNotRead { frames := 3, cells := 0, slots := 0, locals := 64 } (va_Pc [.ref (b 0), .int x1, .int x2, .int x3] (Pr D cI cJ cZ cQ bs sz [oX0 b b_keyCount b_sheetSet b_handSort b_handNumber, aI cI (b 1) 6 b_kinds, aI cI (b 2) 6 b_sizes])) (QrI zr) 0 0 no := by
  refine stM (cc := cX0_whyNotRead) (maxL := 5) (ret := (some .int)) (by decide +kernel) rfl (Nat.le_of_ble_eq_true rfl) ?_
  intro p e s m args below meth c C0 hr hlocks hname hsz hP hDb hE ls hl
  have hAb : ∀ q, no q → bs ≤ q := fun _ h => h.elim
  obtain ⟨hx, hb, hml, hown, hts⟩ := id C0
  have hown : s.vm.findClass RX0 = some m.cls := hown
  obtain ⟨hK, hNW, -, tw, hZ, hT⟩ := id hE
  have hl : lv_has ls 5 [(0, .ref (b 0)), (1, .int x1), (2, .int x2), (3, .int x3)] := hl
  have hS : va_S no s.heap s.heap [] := va_S.rf
  unfold f_X0_whyNotRead at hf
  have go : ∀ (H : Heap) (locs : List Loc), va_P D vwCl [oX0 b b_keyCount b_sheetSet b_handSort b_handNumber, aI cI (b 1) 6 b_kinds, aI cI (b 2) 6 b_sizes] H → va_S no s.heap H locs → W p l e { frames := 3, cells := 0, slots := 0, locals := 64 } s m args below meth c H locs 0 0 (MQ below (QrI zr) args s 0 0 no) (F0 m 0 ls []) := by
    intro H locs hP hS
    refine lv_aload_n hx hb dX0_whyNotRead_0 rfl (lv_at hl 0 rfl) ?_
    refine lv_iload_n hx hb dX0_whyNotRead_1 rfl (lv_at hl 1 rfl) ?_
    refine lv_iload_n hx hb dX0_whyNotRead_2 rfl (lv_at hl 2 rfl) ?_
    obtain ⟨z1, hz1, hf⟩ := obd hf
    refine kI (runV (As := [.int x1, .int x2]) (rest := []) C0 hE hAb hP (hDb.addr rfl) hS [0, 1, 2] (wc := [oX0 b b_keyCount b_sheetSet b_handSort b_handNumber, aI cI (b 1) 6 b_kinds, aI cI (b 2) 6 b_sizes]) (by decide) rfl 0 rfl rfl (c_X0_whyNotReach l D cI cJ cZ cQ bs H.size b b_keyCount b_sheetSet b_handSort b_handNumber b_kinds b_sizes x1 x2 z1 hz1) (cwV 2 hts gX0_whyNotRead_X0_whyNotReach rfl rfl rfl (by decide +kernel) ⟨Nat.le_of_ble_eq_true rfl, Nat.le_of_ble_eq_true rfl⟩) rfl hl.1 rfl (Nat.le_of_ble_eq_true rfl) dX0_whyNotRead_3 ⟨Nat.le_of_ble_eq_true rfl, Nat.le_of_ble_eq_true rfl⟩) hS hP (fun H locs hP hS => ?_)
    refine lv_istore (lv' := [(4, .int z1), (0, .ref (b 0)), (1, .int x1), (2, .int x2), (3, .int x3)]) hx hb dX0_whyNotRead_6 hl (by decide) rfl (fun ls hl => ?_)
    refine lv_iload hx hb dX0_whyNotRead_8 (lv_at hl 0 rfl) ?_
    refine lv_if_ne (tgt := 24) hx hb dX0_whyNotRead_10 (by decide) (fun c2 => ?_) (fun c2 => ?_)
    · replace hf := oel c2 hf
      refine lv_iload hx hb dX0_whyNotRead_24 (lv_at hl 0 rfl) ?_
      have er := Option.some.inj hf
      exact rtI hx hb hr hS dX0_whyNotRead_26 er hlocks
    · replace hf := oif c2 hf
      refine lv_aload_n hx hb dX0_whyNotRead_13 rfl (lv_at hl 1 rfl) ?_
      refine lv_iload_n hx hb dX0_whyNotRead_14 rfl (lv_at hl 2 rfl) ?_
      refine lv_iload_n hx hb dX0_whyNotRead_15 rfl (lv_at hl 4 rfl) ?_
      obtain ⟨z3, hz3, hf⟩ := obd hf
      refine kZ (runV (As := [.int x1, .int x3]) (rest := []) C0 hE hAb hP (hDb.addr rfl) hS [0, 1] (wc := [oX0 b b_keyCount b_sheetSet b_handSort b_handNumber, aI cI (b 1) 6 b_kinds]) (by decide) rfl 0 rfl rfl (c_X0_canRead l D cI cJ cZ cQ bs H.size b b_keyCount b_sheetSet b_handSort b_handNumber b_kinds x1 x3 z3 hz3) (cwV 2 hts gX0_whyNotRead_X0_canRead rfl rfl rfl (by decide +kernel) ⟨Nat.le_of_ble_eq_true rfl, Nat.le_of_ble_eq_true rfl⟩) rfl hl.1 rfl (Nat.le_of_ble_eq_true rfl) dX0_whyNotRead_16 ⟨Nat.le_of_ble_eq_true rfl, Nat.le_of_ble_eq_true rfl⟩) hS hP (fun bz3 H locs hP hS => ?_)
      refine lv_if_ne (tgt := 24) hx hb dX0_whyNotRead_19 (by decide) (fun c4 => ?_) (fun c4 => ?_)
      · replace hf := oel c4 hf
        refine lv_iload hx hb dX0_whyNotRead_24 (lv_at hl 0 rfl) ?_
        have er := Option.some.inj hf
        exact rtI hx hb hr hS dX0_whyNotRead_26 er hlocks
      · replace hf := oif c4 hf
        refine lv_iconst (v := 4) hx hb dX0_whyNotRead_22 (by decide) ?_
        have er := Option.some.inj hf
        exact rtI hx hb hr hS dX0_whyNotRead_23 er hlocks
  exact go s.heap [] hP hS
noncomputable def f_X0_canHold (x0 : Int32) (x1 : Int32) (x2 : Int64) : Option (Int32) := if x1 = 9 then (some (1)) else (if x0 = 9 then (some (1)) else (if x0 = 8 then (if x1 = 4 then (some (1)) else (some (0))) else (if x1 = 8 then (if x0 = 10 then (some (1)) else (if (lg_cmp x2 4) < 0 then (some (0)) else (some (1)))) else (some (0)))))
set_option maxHeartbeats 4000000 in
set_option maxRecDepth 100000 in
theorem c_X0_canHold (l : Launch) (D : va_G) (cI cJ cZ cQ : ClassId) (bs sz : Nat) (x0 : Int32) (x1 : Int32) (x2 : Int64) (zr : Int32) (hf : f_X0_canHold x0 x1 x2 = some zr) : Met l yX0_canHold wsX0_canHold { frames := 0, cells := 0, slots := 0, locals := 0 } (va_Pc [.int x0, .int x1, .long x2] (Pr D cI cJ cZ cQ bs sz [])) (QrZ zr) 0 0 no := by
  refine stM (cc := cX0_canHold) (maxL := 4) (ret := (some .boolean)) (by decide +kernel) rfl (Nat.le_of_ble_eq_true rfl) ?_
  intro p e s m args below meth c C0 hr hlocks hname hsz hP hDb hE ls hl
  have hAb : ∀ q, no q → bs ≤ q := fun _ h => h.elim
  obtain ⟨hx, hb, hml, hown, hts⟩ := id C0
  have hown : s.vm.findClass RX0 = some m.cls := hown
  obtain ⟨hK, hNW, -, tw, hZ, hT⟩ := id hE
  have hl : lv_has ls 4 [(0, .int x0), (1, .int x1), (2, .long x2)] := hl
  have hS : va_S no s.heap s.heap [] := va_S.rf
  have gk97 := hts (.constantLong RX0 97 (4)) (by decide +kernel)
  unfold f_X0_canHold at hf
  have go : ∀ (H : Heap) (locs : List Loc), va_P D vwCl [] H → va_S no s.heap H locs → W p l e { frames := 0, cells := 0, slots := 0, locals := 0 } s m args below meth c H locs 0 0 (MQ below (QrZ zr) args s 0 0 no) (F0 m 0 ls []) := by
    intro H locs hP hS
    refine lv_iload_n hx hb dX0_canHold_0 rfl (lv_at hl 1 rfl) ?_
    refine lv_bipush (v := 9) hx hb dX0_canHold_1 (by decide) ?_
    refine lv_icmp_eq (tgt := 12) hx hb dX0_canHold_3 (by decide) (fun c1 => ?_) (fun c1 => ?_)
    · replace hf := oif c1 hf
      refine lv_iconst (v := 1) hx hb dX0_canHold_12 (by decide) ?_
      have er := Option.some.inj hf
      exact rtZ hx hb hr hS dX0_canHold_13 er (by decide) hlocks
    · replace hf := oel c1 hf
      refine lv_iload_n hx hb dX0_canHold_6 rfl (lv_at hl 0 rfl) ?_
      refine lv_bipush (v := 9) hx hb dX0_canHold_7 (by decide) ?_
      refine lv_icmp_ne (tgt := 14) hx hb dX0_canHold_9 (by decide) (fun c2 => ?_) (fun c2 => ?_)
      · replace hf := oel c2 hf
        refine lv_iload_n hx hb dX0_canHold_14 rfl (lv_at hl 0 rfl) ?_
        refine lv_bipush (v := 8) hx hb dX0_canHold_15 (by decide) ?_
        refine lv_icmp_ne (tgt := 31) hx hb dX0_canHold_17 (by decide) (fun c3 => ?_) (fun c3 => ?_)
        · replace hf := oel c3 hf
          refine lv_iload_n hx hb dX0_canHold_31 rfl (lv_at hl 1 rfl) ?_
          refine lv_bipush (v := 8) hx hb dX0_canHold_32 (by decide) ?_
          refine lv_icmp_ne (tgt := 55) hx hb dX0_canHold_34 (by decide) (fun c4 => ?_) (fun c4 => ?_)
          · replace hf := oel c4 hf
            refine lv_iconst (v := 0) hx hb dX0_canHold_55 (by decide) ?_
            have er := Option.some.inj hf
            exact rtZ hx hb hr hS dX0_canHold_56 er (by decide) hlocks
          · replace hf := oif c4 hf
            refine lv_iload_n hx hb dX0_canHold_37 rfl (lv_at hl 0 rfl) ?_
            refine lv_bipush (v := 10) hx hb dX0_canHold_38 (by decide) ?_
            refine lv_icmp_eq (tgt := 51) hx hb dX0_canHold_40 (by decide) (fun c5 => ?_) (fun c5 => ?_)
            · replace hf := oif c5 hf
              refine lv_iconst (v := 1) hx hb dX0_canHold_51 (by decide) ?_
              refine lv_goto (tgt := 56) hx hb dX0_canHold_52 (by decide) ?_
              have er := Option.some.inj hf
              exact rtZ hx hb hr hS dX0_canHold_56 er (by decide) hlocks
            · replace hf := oel c5 hf
              refine lv_lload_n hx hb dX0_canHold_43 rfl (lv_at hl 2 rfl) ?_
              refine lv_ldc2 hx hb hown gk97 dX0_canHold_44 ?_
              refine W.lcmp hx hb dX0_canHold_47 ?_
              refine lv_if_lt (tgt := 55) hx hb dX0_canHold_48 (by decide) (fun c6 => ?_) (fun c6 => ?_)
              · replace hf := oif c6 hf
                refine lv_iconst (v := 0) hx hb dX0_canHold_55 (by decide) ?_
                have er := Option.some.inj hf
                exact rtZ hx hb hr hS dX0_canHold_56 er (by decide) hlocks
              · replace hf := oel c6 hf
                refine lv_iconst (v := 1) hx hb dX0_canHold_51 (by decide) ?_
                refine lv_goto (tgt := 56) hx hb dX0_canHold_52 (by decide) ?_
                have er := Option.some.inj hf
                exact rtZ hx hb hr hS dX0_canHold_56 er (by decide) hlocks
        · replace hf := oif c3 hf
          refine lv_iload_n hx hb dX0_canHold_20 rfl (lv_at hl 1 rfl) ?_
          refine lv_iconst (v := 4) hx hb dX0_canHold_21 (by decide) ?_
          refine lv_icmp_ne (tgt := 29) hx hb dX0_canHold_22 (by decide) (fun c7 => ?_) (fun c7 => ?_)
          · replace hf := oel c7 hf
            refine lv_iconst (v := 0) hx hb dX0_canHold_29 (by decide) ?_
            have er := Option.some.inj hf
            exact rtZ hx hb hr hS dX0_canHold_30 er (by decide) hlocks
          · replace hf := oif c7 hf
            refine lv_iconst (v := 1) hx hb dX0_canHold_25 (by decide) ?_
            refine lv_goto (tgt := 30) hx hb dX0_canHold_26 (by decide) ?_
            have er := Option.some.inj hf
            exact rtZ hx hb hr hS dX0_canHold_30 er (by decide) hlocks
      · replace hf := oif c2 hf
        refine lv_iconst (v := 1) hx hb dX0_canHold_12 (by decide) ?_
        have er := Option.some.inj hf
        exact rtZ hx hb hr hS dX0_canHold_13 er (by decide) hlocks
  exact go s.heap [] hP hS
noncomputable def f_X0_whyNotPut (b_kinds : Nat → Int32) (b_sizes : Nat → Int32) (x1 : Int32) (x2 : Int32) (x3 : Int32) (x4 : Int64) (x6 : Int32) : Option (Int32) := (f_X0_whyNotReach b_kinds b_sizes x1 x2).bind (fun z1 => if z1 = 0 then ((f_X0_kindOf b_kinds x1).bind (fun z3 => if 7 < z3 then (if x6 = 0 then ((f_X0_canHold z3 x3 x4).bind (fun z6 => if z6 = 0 then (some (4)) else (some (0)))) else (some (4))) else ((f_X5_fits x3 z3).bind (fun z8 => if z8 = 0 then (some (4)) else (some (0)))))) else (some (z1)))
set_option maxHeartbeats 4000000 in
set_option maxRecDepth 100000 in
theorem c_X0_whyNotPut (l : Launch) (D : va_G) (cI cJ cZ cQ : ClassId) (bs sz : Nat) (b : Nat → Nat) (b_keyCount : Int32) (b_sheetSet : Int32) (b_handSort : Int32) (b_handNumber : Int64) (b_kinds : Nat → Int32) (b_sizes : Nat → Int32) (x1 : Int32) (x2 : Int32) (x3 : Int32) (x4 : Int64) (x6 : Int32) (zr : Int32) (hf : f_X0_whyNotPut b_kinds b_sizes x1 x2 x3 x4 x6 = some zr) : Met l yX0_whyNotPut wsX0_whyNotPut { frames := 3, cells := 0, slots := 0, locals := 64 } (va_Pc [.ref (b 0), .int x1, .int x2, .int x3, .long x4, .int x6] (Pr D cI cJ cZ cQ bs sz [oX0 b b_keyCount b_sheetSet b_handSort b_handNumber, aI cI (b 1) 6 b_kinds, aI cI (b 2) 6 b_sizes])) (QrI zr) 0 0 no := by
  refine stM (cc := cX0_whyNotPut) (maxL := 9) (ret := (some .int)) (by decide +kernel) rfl (Nat.le_of_ble_eq_true rfl) ?_
  intro p e s m args below meth c C0 hr hlocks hname hsz hP hDb hE ls hl
  have hAb : ∀ q, no q → bs ≤ q := fun _ h => h.elim
  obtain ⟨hx, hb, hml, hown, hts⟩ := id C0
  have hown : s.vm.findClass RX0 = some m.cls := hown
  obtain ⟨hK, hNW, -, tw, hZ, hT⟩ := id hE
  have hl : lv_has ls 9 [(0, .ref (b 0)), (1, .int x1), (2, .int x2), (3, .int x3), (4, .long x4), (6, .int x6)] := hl
  have hS : va_S no s.heap s.heap [] := va_S.rf
  have gn83 := hNW (.methodLinkNest RX0 83 yX5_fits RX5) (by decide +kernel)
  have giRX5 := hts (.initialized RX5) (by decide +kernel)
  have gsX5_fits := hts (.static yX5_fits) (by decide +kernel)
  unfold f_X0_whyNotPut at hf
  have go : ∀ (H : Heap) (locs : List Loc), va_P D vwCl [oX0 b b_keyCount b_sheetSet b_handSort b_handNumber, aI cI (b 1) 6 b_kinds, aI cI (b 2) 6 b_sizes] H → va_S no s.heap H locs → W p l e { frames := 3, cells := 0, slots := 0, locals := 64 } s m args below meth c H locs 0 0 (MQ below (QrI zr) args s 0 0 no) (F0 m 0 ls []) := by
    intro H locs hP hS
    refine lv_aload_n hx hb dX0_whyNotPut_0 rfl (lv_at hl 0 rfl) ?_
    refine lv_iload_n hx hb dX0_whyNotPut_1 rfl (lv_at hl 1 rfl) ?_
    refine lv_iload_n hx hb dX0_whyNotPut_2 rfl (lv_at hl 2 rfl) ?_
    obtain ⟨z1, hz1, hf⟩ := obd hf
    refine kI (runV (As := [.int x1, .int x2]) (rest := []) C0 hE hAb hP (hDb.addr rfl) hS [0, 1, 2] (wc := [oX0 b b_keyCount b_sheetSet b_handSort b_handNumber, aI cI (b 1) 6 b_kinds, aI cI (b 2) 6 b_sizes]) (by decide) rfl 0 rfl rfl (c_X0_whyNotReach l D cI cJ cZ cQ bs H.size b b_keyCount b_sheetSet b_handSort b_handNumber b_kinds b_sizes x1 x2 z1 hz1) (cwV 2 hts gX0_whyNotPut_X0_whyNotReach rfl rfl rfl (by decide +kernel) ⟨Nat.le_of_ble_eq_true rfl, Nat.le_of_ble_eq_true rfl⟩) rfl hl.1 rfl (Nat.le_of_ble_eq_true rfl) dX0_whyNotPut_3 ⟨Nat.le_of_ble_eq_true rfl, Nat.le_of_ble_eq_true rfl⟩) hS hP (fun H locs hP hS => ?_)
    refine lv_istore (lv' := [(7, .int z1), (0, .ref (b 0)), (1, .int x1), (2, .int x2), (3, .int x3), (4, .long x4), (6, .int x6)]) hx hb dX0_whyNotPut_6 hl (by decide) rfl (fun ls hl => ?_)
    refine lv_iload hx hb dX0_whyNotPut_8 (lv_at hl 0 rfl) ?_
    refine lv_if_eq (tgt := 16) hx hb dX0_whyNotPut_10 (by decide) (fun c2 => ?_) (fun c2 => ?_)
    · replace hf := oif c2 hf
      refine lv_aload_n hx hb dX0_whyNotPut_16 rfl (lv_at hl 1 rfl) ?_
      refine lv_iload_n hx hb dX0_whyNotPut_17 rfl (lv_at hl 2 rfl) ?_
      obtain ⟨z3, hz3, hf⟩ := obd hf
      refine kI (runV (As := [.int x1]) (rest := []) C0 hE hAb hP (hDb.addr rfl) hS [0, 1] (wc := [oX0 b b_keyCount b_sheetSet b_handSort b_handNumber, aI cI (b 1) 6 b_kinds]) (by decide) rfl 0 rfl rfl (c_X0_kindOf l D cI cJ cZ cQ bs H.size b b_keyCount b_sheetSet b_handSort b_handNumber b_kinds x1 z3 hz3) (cwV 1 hts gX0_whyNotPut_X0_kindOf rfl rfl rfl (by decide +kernel) ⟨Nat.le_of_ble_eq_true rfl, Nat.le_of_ble_eq_true rfl⟩) rfl hl.1 rfl (Nat.le_of_ble_eq_true rfl) dX0_whyNotPut_18 ⟨Nat.le_of_ble_eq_true rfl, Nat.le_of_ble_eq_true rfl⟩) hS hP (fun H locs hP hS => ?_)
      refine lv_istore (lv' := [(8, .int z3), (7, .int z1), (0, .ref (b 0)), (1, .int x1), (2, .int x2), (3, .int x3), (4, .long x4), (6, .int x6)]) hx hb dX0_whyNotPut_21 hl (by decide) rfl (fun ls hl => ?_)
      refine lv_iload hx hb dX0_whyNotPut_23 (lv_at hl 0 rfl) ?_
      refine lv_bipush (v := 7) hx hb dX0_whyNotPut_25 (by decide) ?_
      refine lv_icmp_gt (tgt := 45) hx hb dX0_whyNotPut_27 (by decide) (fun c4 => ?_) (fun c4 => ?_)
      · replace hf := oif c4 hf
        refine lv_iload hx hb dX0_whyNotPut_45 (lv_at hl 7 rfl) ?_
        refine lv_if_ne (tgt := 65) hx hb dX0_whyNotPut_47 (by decide) (fun c5 => ?_) (fun c5 => ?_)
        · replace hf := oel c5 hf
          refine lv_iconst (v := 4) hx hb dX0_whyNotPut_65 (by decide) ?_
          have er := Option.some.inj hf
          exact rtI hx hb hr hS dX0_whyNotPut_66 er hlocks
        · replace hf := oif c5 hf
          refine lv_iload hx hb dX0_whyNotPut_50 (lv_at hl 0 rfl) ?_
          refine lv_iload_n hx hb dX0_whyNotPut_52 rfl (lv_at hl 5 rfl) ?_
          refine lv_lload hx hb dX0_whyNotPut_53 (lv_at hl 6 rfl) ?_
          obtain ⟨z6, hz6, hf⟩ := obd hf
          refine kZ (runS (As := [.int z3, .int x3, .long x4]) (rest := []) C0 hE hAb hP (hDb.addr rfl) hS [] (wc := []) (by decide) rfl (c_X0_canHold l D cI cJ cZ cQ bs H.size z3 x3 x4 z6 hz6) (va_cwS 3 hts gX0_whyNotPut_X0_canHold rfl rfl rfl (by decide +kernel) ⟨Nat.le_of_ble_eq_true rfl, Nat.le_of_ble_eq_true rfl⟩) rfl hl.1 rfl (Nat.le_of_ble_eq_true rfl) dX0_whyNotPut_55 ⟨Nat.le_of_ble_eq_true rfl, Nat.le_of_ble_eq_true rfl⟩) hS hP (fun bz6 H locs hP hS => ?_)
          refine lv_if_eq (tgt := 65) hx hb dX0_whyNotPut_58 (by decide) (fun c7 => ?_) (fun c7 => ?_)
          · replace hf := oif c7 hf
            refine lv_iconst (v := 4) hx hb dX0_whyNotPut_65 (by decide) ?_
            have er := Option.some.inj hf
            exact rtI hx hb hr hS dX0_whyNotPut_66 er hlocks
          · replace hf := oel c7 hf
            refine lv_iconst (v := 0) hx hb dX0_whyNotPut_61 (by decide) ?_
            refine lv_goto (tgt := 66) hx hb dX0_whyNotPut_62 (by decide) ?_
            have er := Option.some.inj hf
            exact rtI hx hb hr hS dX0_whyNotPut_66 er hlocks
      · replace hf := oel c4 hf
        refine lv_iload_n hx hb dX0_whyNotPut_30 rfl (lv_at hl 5 rfl) ?_
        refine lv_iload hx hb dX0_whyNotPut_31 (lv_at hl 0 rfl) ?_
        obtain ⟨z8, hz8, hf⟩ := obd hf
        refine kZ (runSN (As := [.int x3, .int z3]) (rest := []) C0 hE hAb hP (hDb.addr rfl) hS [] (wc := []) (by decide) rfl (c_X5_fits l D cI cJ cZ cQ bs H.size x3 z3 z8 hz8) (va_cnB 2 hts ggX0_whyNotPut_X5_fits rfl rfl rfl gn83 giRX5 (by decide +kernel) ⟨Nat.le_of_ble_eq_true rfl, Nat.le_of_ble_eq_true rfl⟩) gsX5_fits rfl hl.1 rfl (Nat.le_of_ble_eq_true rfl) dX0_whyNotPut_33 ⟨Nat.le_of_ble_eq_true rfl, Nat.le_of_ble_eq_true rfl⟩) hS hP (fun bz8 H locs hP hS => ?_)
        refine lv_if_eq (tgt := 43) hx hb dX0_whyNotPut_36 (by decide) (fun c9 => ?_) (fun c9 => ?_)
        · replace hf := oif c9 hf
          refine lv_iconst (v := 4) hx hb dX0_whyNotPut_43 (by decide) ?_
          have er := Option.some.inj hf
          exact rtI hx hb hr hS dX0_whyNotPut_44 er hlocks
        · replace hf := oel c9 hf
          refine lv_iconst (v := 0) hx hb dX0_whyNotPut_39 (by decide) ?_
          refine lv_goto (tgt := 44) hx hb dX0_whyNotPut_40 (by decide) ?_
          have er := Option.some.inj hf
          exact rtI hx hb hr hS dX0_whyNotPut_44 er hlocks
    · replace hf := oel c2 hf
      refine lv_iload hx hb dX0_whyNotPut_13 (lv_at hl 0 rfl) ?_
      have er := Option.some.inj hf
      exact rtI hx hb hr hS dX0_whyNotPut_15 er hlocks
  exact go s.heap [] hP hS
noncomputable def f_X0_store (b_kinds : Nat → Int32) (b_sorts : Nat → Int32) (b_numbers : Nat → Int64) (x1 : Int32) (x2 : Int32) (x3 : Int32) (x4 : Int64) : Option ((Nat → Int32) × (Nat → Int64)) := (f_X0_kindOf b_kinds x1).bind (fun z1 => if 7 < z1 then ((f_X0_setCell b_sorts b_numbers x1 x2 x3 x4).bind (fun z3 => some ((z3.1, z3.2)))) else ((f_X5_made z1 x4).bind (fun z4 => (f_X0_setCell b_sorts b_numbers x1 x2 z1 z4).bind (fun z5 => some ((z5.1, z5.2))))))
set_option maxHeartbeats 4000000 in
set_option maxRecDepth 100000 in
theorem c_X0_store (l : Launch) (D : va_G) (cI cJ cZ cQ : ClassId) (bs sz : Nat) (b : Nat → Nat) (b_keyCount : Int32) (b_sheetSet : Int32) (b_handSort : Int32) (b_handNumber : Int64) (b_kinds : Nat → Int32) (b_sorts : Nat → Int32) (b_numbers : Nat → Int64) (x1 : Int32) (x2 : Int32) (x3 : Int32) (x4 : Int64) (zr : (Nat → Int32) × (Nat → Int64)) (hf : f_X0_store b_kinds b_sorts b_numbers x1 x2 x3 x4 = some zr) : Met l yX0_store wsX0_store { frames := 2, cells := 0, slots := 0, locals := 46 } (va_Pc [.ref (b 0), .int x1, .int x2, .int x3, .long x4] (Pr D cI cJ cZ cQ bs sz [oX0 b b_keyCount b_sheetSet b_handSort b_handNumber, aI cI (b 1) 6 b_kinds, aI cI (b 3) 72 b_sorts, aJ cJ (b 4) 72 b_numbers])) (QwV D zr (fun u => [oX0 b b_keyCount b_sheetSet b_handSort b_handNumber, aI cI (b 1) 6 b_kinds, aI cI (b 3) 72 u.1, aJ cJ (b 4) 72 u.2]) (va_A [oX0 b b_keyCount b_sheetSet b_handSort b_handNumber, aI cI (b 1) 6 b_kinds, aI cI (b 3) 72 b_sorts, aJ cJ (b 4) 72 b_numbers] sz)) 0 0 (va_A [oX0 b b_keyCount b_sheetSet b_handSort b_handNumber, aI cI (b 1) 6 b_kinds, aI cI (b 3) 72 b_sorts, aJ cJ (b 4) 72 b_numbers] sz) := by
  refine stW (cc := cX0_store) (maxL := 7) (ret := none) (Qf := fun A => (QwV D zr (fun u => [oX0 b b_keyCount b_sheetSet b_handSort b_handNumber, aI cI (b 1) 6 b_kinds, aI cI (b 3) 72 u.1, aJ cJ (b 4) 72 u.2]) A)) (by decide +kernel) rfl (Nat.le_of_ble_eq_true rfl) ?_
  intro p e s m args below meth c A C0 hr hlocks hname hsz hP hD hA hAb hE ls hl
  obtain ⟨hx, hb, hml, hown, hts⟩ := id C0
  have hown : s.vm.findClass RX0 = some m.cls := hown
  obtain ⟨hK, hNW, -, tw, hZ, hT⟩ := id hE
  have hl : lv_has ls 7 [(0, .ref (b 0)), (1, .int x1), (2, .int x2), (3, .int x3), (4, .long x4)] := hl
  have hS : va_S A s.heap s.heap [] := va_S.rf
  have gn99 := hNW (.methodLinkNest RX0 99 yX5_made RX5) (by decide +kernel)
  have giRX5 := hts (.initialized RX5) (by decide +kernel)
  have gsX5_made := hts (.static yX5_made) (by decide +kernel)
  unfold f_X0_store at hf
  have go : ∀ (H : Heap) (locs : List Loc), va_P D vwCl [oX0 b b_keyCount b_sheetSet b_handSort b_handNumber, aI cI (b 1) 6 b_kinds, aI cI (b 3) 72 b_sorts, aJ cJ (b 4) 72 b_numbers] H → va_S A s.heap H locs → W p l e { frames := 2, cells := 0, slots := 0, locals := 46 } s m args below meth c H locs 0 0 (MQ below (QwV D zr (fun u => [oX0 b b_keyCount b_sheetSet b_handSort b_handNumber, aI cI (b 1) 6 b_kinds, aI cI (b 3) 72 u.1, aJ cJ (b 4) 72 u.2]) A) args s 0 0 A) (F0 m 0 ls []) := by
    intro H locs hP hS
    refine lv_aload_n hx hb dX0_store_0 rfl (lv_at hl 0 rfl) ?_
    refine lv_iload_n hx hb dX0_store_1 rfl (lv_at hl 1 rfl) ?_
    obtain ⟨z1, hz1, hf⟩ := obd hf
    refine kI (runV (As := [.int x1]) (rest := []) C0 hE hAb hP ((hD.weaken (fun _ _ _ h9 => hAb _ h9)).addr rfl) hS [0, 1] (wc := [oX0 b b_keyCount b_sheetSet b_handSort b_handNumber, aI cI (b 1) 6 b_kinds]) (by decide) rfl 0 rfl rfl (c_X0_kindOf l D cI cJ cZ cQ bs H.size b b_keyCount b_sheetSet b_handSort b_handNumber b_kinds x1 z1 hz1) (cwV 1 hts gX0_store_X0_kindOf rfl rfl rfl (by decide +kernel) ⟨Nat.le_of_ble_eq_true rfl, Nat.le_of_ble_eq_true rfl⟩) rfl hl.1 rfl (Nat.le_of_ble_eq_true rfl) dX0_store_2 ⟨Nat.le_of_ble_eq_true rfl, Nat.le_of_ble_eq_true rfl⟩) hS hP (fun H locs hP hS => ?_)
    refine lv_istore (lv' := [(6, .int z1), (0, .ref (b 0)), (1, .int x1), (2, .int x2), (3, .int x3), (4, .long x4)]) hx hb dX0_store_5 hl (by decide) rfl (fun ls hl => ?_)
    refine lv_iload hx hb dX0_store_7 (lv_at hl 0 rfl) ?_
    refine lv_bipush (v := 7) hx hb dX0_store_9 (by decide) ?_
    refine lv_icmp_gt (tgt := 32) hx hb dX0_store_11 (by decide) (fun c2 => ?_) (fun c2 => ?_)
    · replace hf := oif c2 hf
      refine lv_aload_n hx hb dX0_store_32 rfl (lv_at hl 1 rfl) ?_
      refine lv_iload_n hx hb dX0_store_33 rfl (lv_at hl 2 rfl) ?_
      refine lv_iload_n hx hb dX0_store_34 rfl (lv_at hl 3 rfl) ?_
      refine lv_iload_n hx hb dX0_store_35 rfl (lv_at hl 4 rfl) ?_
      refine lv_lload hx hb dX0_store_36 (lv_at hl 5 rfl) ?_
      obtain ⟨z3, hz3, hf⟩ := obd hf
      refine kwV (runV (As := [.int x1, .int x2, .int x3, .long x4]) (rest := []) C0 hE hAb hP ((hD.weaken (fun _ _ _ h9 => hAb _ h9)).addr rfl) hS [0, 2, 3] (wc := [oX0 b b_keyCount b_sheetSet b_handSort b_handNumber, aI cI (b 3) 72 b_sorts, aJ cJ (b 4) 72 b_numbers]) (by decide) rfl 0 rfl rfl (c_X0_setCell l D cI cJ cZ cQ bs H.size b b_keyCount b_sheetSet b_handSort b_handNumber b_sorts b_numbers x1 x2 x3 x4 z3 hz3) (cwV 4 hts gX0_store_X0_setCell rfl rfl rfl (by decide +kernel) ⟨Nat.le_of_ble_eq_true rfl, Nat.le_of_ble_eq_true rfl⟩) rfl hl.1 rfl (Nat.le_of_ble_eq_true rfl) dX0_store_38 ⟨Nat.le_of_ble_eq_true rfl, Nat.le_of_ble_eq_true rfl⟩) hS hP (hD.addr rfl) hA [0, 2, 3] rfl rfl (ws' := [oX0 b b_keyCount b_sheetSet b_handSort b_handNumber, aI cI (b 1) 6 b_kinds, aI cI (b 3) 72 z3.1, aJ cJ (b 4) 72 z3.2]) rfl rfl (fun H locs hP hS => ?_)
      have er := Option.some.inj hf
      exact rwV (wm := (fun u => [oX0 b b_keyCount b_sheetSet b_handSort b_handNumber, aI cI (b 1) 6 b_kinds, aI cI (b 3) 72 u.1, aJ cJ (b 4) 72 u.2])) hx hb hr hS dX0_store_41 hP er hlocks
    · replace hf := oel c2 hf
      refine lv_aload_n hx hb dX0_store_14 rfl (lv_at hl 1 rfl) ?_
      refine lv_iload_n hx hb dX0_store_15 rfl (lv_at hl 2 rfl) ?_
      refine lv_iload_n hx hb dX0_store_16 rfl (lv_at hl 3 rfl) ?_
      refine lv_iload hx hb dX0_store_17 (lv_at hl 0 rfl) ?_
      refine lv_iload hx hb dX0_store_19 (lv_at hl 0 rfl) ?_
      refine lv_lload hx hb dX0_store_21 (lv_at hl 5 rfl) ?_
      obtain ⟨z4, hz4, hf⟩ := obd hf
      refine kJ (runSN (As := [.int z1, .long x4]) (rest := [.int z1, .int x2, .int x1, .ref (b 0)]) C0 hE hAb hP ((hD.weaken (fun _ _ _ h9 => hAb _ h9)).addr rfl) hS [] (wc := []) (by decide) rfl (c_X5_made l D cI cJ cZ cQ bs H.size z1 x4 z4 hz4) (va_cnB 2 hts ggX0_store_X5_made rfl rfl rfl gn99 giRX5 (by decide +kernel) ⟨Nat.le_of_ble_eq_true rfl, Nat.le_of_ble_eq_true rfl⟩) gsX5_made rfl hl.1 rfl (Nat.le_of_ble_eq_true rfl) dX0_store_23 ⟨Nat.le_of_ble_eq_true rfl, Nat.le_of_ble_eq_true rfl⟩) hS hP (fun H locs hP hS => ?_)
      obtain ⟨z5, hz5, hf⟩ := obd hf
      refine kwV (runV (As := [.int x1, .int x2, .int z1, .long z4]) (rest := []) C0 hE hAb hP ((hD.weaken (fun _ _ _ h9 => hAb _ h9)).addr rfl) hS [0, 2, 3] (wc := [oX0 b b_keyCount b_sheetSet b_handSort b_handNumber, aI cI (b 3) 72 b_sorts, aJ cJ (b 4) 72 b_numbers]) (by decide) rfl 0 rfl rfl (c_X0_setCell l D cI cJ cZ cQ bs H.size b b_keyCount b_sheetSet b_handSort b_handNumber b_sorts b_numbers x1 x2 z1 z4 z5 hz5) (cwV 4 hts gX0_store_X0_setCell rfl rfl rfl (by decide +kernel) ⟨Nat.le_of_ble_eq_true rfl, Nat.le_of_ble_eq_true rfl⟩) rfl hl.1 rfl (Nat.le_of_ble_eq_true rfl) dX0_store_26 ⟨Nat.le_of_ble_eq_true rfl, Nat.le_of_ble_eq_true rfl⟩) hS hP (hD.addr rfl) hA [0, 2, 3] rfl rfl (ws' := [oX0 b b_keyCount b_sheetSet b_handSort b_handNumber, aI cI (b 1) 6 b_kinds, aI cI (b 3) 72 z5.1, aJ cJ (b 4) 72 z5.2]) rfl rfl (fun H locs hP hS => ?_)
      refine lv_goto (tgt := 41) hx hb dX0_store_29 (by decide) ?_
      have er := Option.some.inj hf
      exact rwV (wm := (fun u => [oX0 b b_keyCount b_sheetSet b_handSort b_handNumber, aI cI (b 1) 6 b_kinds, aI cI (b 3) 72 u.1, aJ cJ (b 4) 72 u.2])) hx hb hr hS dX0_store_41 hP er hlocks
  exact go s.heap [] hP hS
noncomputable def f_X0_copyCell (b_kinds : Nat → Int32) (b_sizes : Nat → Int32) (b_sorts : Nat → Int32) (b_numbers : Nat → Int64) (x1 : Int32) (x2 : Int32) (x3 : Int32) (x4 : Int32) : Option (Int32 × (Nat → Int32) × (Nat → Int64)) := (f_X0_whyNotRead b_kinds b_sizes x1 x2 8).bind (fun z1 => if z1 = 0 then ((f_X0_sortAt b_sorts x1 x2).bind (fun z3 => (f_X0_numberAt b_numbers x1 x2).bind (fun z4 => (f_X0_whyNotPut b_kinds b_sizes x3 x4 z3 z4 0).bind (fun z5 => if z5 = 0 then ((f_X0_store b_kinds b_sorts b_numbers x3 x4 z3 z4).bind (fun z7 => some ((1, z7.1, z7.2)))) else (some ((0, b_sorts, b_numbers))))))) else (some ((0, b_sorts, b_numbers))))
set_option maxHeartbeats 4000000 in
set_option maxRecDepth 100000 in
theorem c_X0_copyCell (l : Launch) (D : va_G) (cI cJ cZ cQ : ClassId) (bs sz : Nat) (b : Nat → Nat) (b_keyCount : Int32) (b_sheetSet : Int32) (b_handSort : Int32) (b_handNumber : Int64) (b_kinds : Nat → Int32) (b_sizes : Nat → Int32) (b_sorts : Nat → Int32) (b_numbers : Nat → Int64) (x1 : Int32) (x2 : Int32) (x3 : Int32) (x4 : Int32) (zr : Int32 × (Nat → Int32) × (Nat → Int64)) (hf : f_X0_copyCell b_kinds b_sizes b_sorts b_numbers x1 x2 x3 x4 = some zr) : Met l yX0_copyCell wsX0_copyCell { frames := 4, cells := 0, slots := 0, locals := 92 } (va_Pc [.ref (b 0), .int x1, .int x2, .int x3, .int x4] (Pr D cI cJ cZ cQ bs sz [oX0 b b_keyCount b_sheetSet b_handSort b_handNumber, aI cI (b 1) 6 b_kinds, aI cI (b 2) 6 b_sizes, aI cI (b 3) 72 b_sorts, aJ cJ (b 4) 72 b_numbers])) (QwZ D zr (fun u => [oX0 b b_keyCount b_sheetSet b_handSort b_handNumber, aI cI (b 1) 6 b_kinds, aI cI (b 2) 6 b_sizes, aI cI (b 3) 72 u.1, aJ cJ (b 4) 72 u.2]) (va_A [oX0 b b_keyCount b_sheetSet b_handSort b_handNumber, aI cI (b 1) 6 b_kinds, aI cI (b 2) 6 b_sizes, aI cI (b 3) 72 b_sorts, aJ cJ (b 4) 72 b_numbers] sz)) 0 0 (va_A [oX0 b b_keyCount b_sheetSet b_handSort b_handNumber, aI cI (b 1) 6 b_kinds, aI cI (b 2) 6 b_sizes, aI cI (b 3) 72 b_sorts, aJ cJ (b 4) 72 b_numbers] sz) := by
  refine stW (cc := cX0_copyCell) (maxL := 8) (ret := (some .boolean)) (Qf := fun A => (QwZ D zr (fun u => [oX0 b b_keyCount b_sheetSet b_handSort b_handNumber, aI cI (b 1) 6 b_kinds, aI cI (b 2) 6 b_sizes, aI cI (b 3) 72 u.1, aJ cJ (b 4) 72 u.2]) A)) (by decide +kernel) rfl (Nat.le_of_ble_eq_true rfl) ?_
  intro p e s m args below meth c A C0 hr hlocks hname hsz hP hD hA hAb hE ls hl
  obtain ⟨hx, hb, hml, hown, hts⟩ := id C0
  have hown : s.vm.findClass RX0 = some m.cls := hown
  obtain ⟨hK, hNW, -, tw, hZ, hT⟩ := id hE
  have hl : lv_has ls 8 [(0, .ref (b 0)), (1, .int x1), (2, .int x2), (3, .int x3), (4, .int x4)] := hl
  have hS : va_S A s.heap s.heap [] := va_S.rf
  unfold f_X0_copyCell at hf
  have go : ∀ (H : Heap) (locs : List Loc), va_P D vwCl [oX0 b b_keyCount b_sheetSet b_handSort b_handNumber, aI cI (b 1) 6 b_kinds, aI cI (b 2) 6 b_sizes, aI cI (b 3) 72 b_sorts, aJ cJ (b 4) 72 b_numbers] H → va_S A s.heap H locs → W p l e { frames := 4, cells := 0, slots := 0, locals := 92 } s m args below meth c H locs 0 0 (MQ below (QwZ D zr (fun u => [oX0 b b_keyCount b_sheetSet b_handSort b_handNumber, aI cI (b 1) 6 b_kinds, aI cI (b 2) 6 b_sizes, aI cI (b 3) 72 u.1, aJ cJ (b 4) 72 u.2]) A) args s 0 0 A) (F0 m 0 ls []) := by
    intro H locs hP hS
    refine lv_aload_n hx hb dX0_copyCell_0 rfl (lv_at hl 0 rfl) ?_
    refine lv_iload_n hx hb dX0_copyCell_1 rfl (lv_at hl 1 rfl) ?_
    refine lv_iload_n hx hb dX0_copyCell_2 rfl (lv_at hl 2 rfl) ?_
    refine lv_bipush (v := 8) hx hb dX0_copyCell_3 (by decide) ?_
    obtain ⟨z1, hz1, hf⟩ := obd hf
    refine kI (runV (As := [.int x1, .int x2, .int 8]) (rest := []) C0 hE hAb hP ((hD.weaken (fun _ _ _ h9 => hAb _ h9)).addr rfl) hS [0, 1, 2] (wc := [oX0 b b_keyCount b_sheetSet b_handSort b_handNumber, aI cI (b 1) 6 b_kinds, aI cI (b 2) 6 b_sizes]) (by decide) rfl 0 rfl rfl (c_X0_whyNotRead l D cI cJ cZ cQ bs H.size b b_keyCount b_sheetSet b_handSort b_handNumber b_kinds b_sizes x1 x2 8 z1 hz1) (cwV 3 hts gX0_copyCell_X0_whyNotRead rfl rfl rfl (by decide +kernel) ⟨Nat.le_of_ble_eq_true rfl, Nat.le_of_ble_eq_true rfl⟩) rfl hl.1 rfl (Nat.le_of_ble_eq_true rfl) dX0_copyCell_5 ⟨Nat.le_of_ble_eq_true rfl, Nat.le_of_ble_eq_true rfl⟩) hS hP (fun H locs hP hS => ?_)
    refine lv_if_eq (tgt := 13) hx hb dX0_copyCell_8 (by decide) (fun c2 => ?_) (fun c2 => ?_)
    · replace hf := oif c2 hf
      refine lv_aload_n hx hb dX0_copyCell_13 rfl (lv_at hl 0 rfl) ?_
      refine lv_iload_n hx hb dX0_copyCell_14 rfl (lv_at hl 1 rfl) ?_
      refine lv_iload_n hx hb dX0_copyCell_15 rfl (lv_at hl 2 rfl) ?_
      obtain ⟨z3, hz3, hf⟩ := obd hf
      refine kI (runV (As := [.int x1, .int x2]) (rest := []) C0 hE hAb hP ((hD.weaken (fun _ _ _ h9 => hAb _ h9)).addr rfl) hS [0, 3] (wc := [oX0 b b_keyCount b_sheetSet b_handSort b_handNumber, aI cI (b 3) 72 b_sorts]) (by decide) rfl 0 rfl rfl (c_X0_sortAt l D cI cJ cZ cQ bs H.size b b_keyCount b_sheetSet b_handSort b_handNumber b_sorts x1 x2 z3 hz3) (cwV 2 hts gX0_copyCell_X0_sortAt rfl rfl rfl (by decide +kernel) ⟨Nat.le_of_ble_eq_true rfl, Nat.le_of_ble_eq_true rfl⟩) rfl hl.1 rfl (Nat.le_of_ble_eq_true rfl) dX0_copyCell_16 ⟨Nat.le_of_ble_eq_true rfl, Nat.le_of_ble_eq_true rfl⟩) hS hP (fun H locs hP hS => ?_)
      refine lv_istore (lv' := [(5, .int z3), (0, .ref (b 0)), (1, .int x1), (2, .int x2), (3, .int x3), (4, .int x4)]) hx hb dX0_copyCell_19 hl (by decide) rfl (fun ls hl => ?_)
      refine lv_aload_n hx hb dX0_copyCell_21 rfl (lv_at hl 1 rfl) ?_
      refine lv_iload_n hx hb dX0_copyCell_22 rfl (lv_at hl 2 rfl) ?_
      refine lv_iload_n hx hb dX0_copyCell_23 rfl (lv_at hl 3 rfl) ?_
      obtain ⟨z4, hz4, hf⟩ := obd hf
      refine kJ (runV (As := [.int x1, .int x2]) (rest := []) C0 hE hAb hP ((hD.weaken (fun _ _ _ h9 => hAb _ h9)).addr rfl) hS [0, 4] (wc := [oX0 b b_keyCount b_sheetSet b_handSort b_handNumber, aJ cJ (b 4) 72 b_numbers]) (by decide) rfl 0 rfl rfl (c_X0_numberAt l D cI cJ cZ cQ bs H.size b b_keyCount b_sheetSet b_handSort b_handNumber b_numbers x1 x2 z4 hz4) (cwV 2 hts gX0_copyCell_X0_numberAt rfl rfl rfl (by decide +kernel) ⟨Nat.le_of_ble_eq_true rfl, Nat.le_of_ble_eq_true rfl⟩) rfl hl.1 rfl (Nat.le_of_ble_eq_true rfl) dX0_copyCell_24 ⟨Nat.le_of_ble_eq_true rfl, Nat.le_of_ble_eq_true rfl⟩) hS hP (fun H locs hP hS => ?_)
      refine lv_lstore (lv' := [(6, .long z4), (5, .int z3), (0, .ref (b 0)), (1, .int x1), (2, .int x2), (3, .int x3), (4, .int x4)]) hx hb dX0_copyCell_27 hl (by decide) rfl (fun ls hl => ?_)
      refine lv_aload_n hx hb dX0_copyCell_29 rfl (lv_at hl 2 rfl) ?_
      refine lv_iload_n hx hb dX0_copyCell_30 rfl (lv_at hl 5 rfl) ?_
      refine lv_iload hx hb dX0_copyCell_31 (lv_at hl 6 rfl) ?_
      refine lv_iload hx hb dX0_copyCell_33 (lv_at hl 1 rfl) ?_
      refine lv_lload hx hb dX0_copyCell_35 (lv_at hl 0 rfl) ?_
      refine lv_iconst (v := 0) hx hb dX0_copyCell_37 (by decide) ?_
      obtain ⟨z5, hz5, hf⟩ := obd hf
      refine kI (runV (As := [.int x3, .int x4, .int z3, .long z4, .int 0]) (rest := []) C0 hE hAb hP ((hD.weaken (fun _ _ _ h9 => hAb _ h9)).addr rfl) hS [0, 1, 2] (wc := [oX0 b b_keyCount b_sheetSet b_handSort b_handNumber, aI cI (b 1) 6 b_kinds, aI cI (b 2) 6 b_sizes]) (by decide) rfl 0 rfl rfl (c_X0_whyNotPut l D cI cJ cZ cQ bs H.size b b_keyCount b_sheetSet b_handSort b_handNumber b_kinds b_sizes x3 x4 z3 z4 0 z5 hz5) (cwV 5 hts gX0_copyCell_X0_whyNotPut rfl rfl rfl (by decide +kernel) ⟨Nat.le_of_ble_eq_true rfl, Nat.le_of_ble_eq_true rfl⟩) rfl hl.1 rfl (Nat.le_of_ble_eq_true rfl) dX0_copyCell_38 ⟨Nat.le_of_ble_eq_true rfl, Nat.le_of_ble_eq_true rfl⟩) hS hP (fun H locs hP hS => ?_)
      refine lv_if_eq (tgt := 46) hx hb dX0_copyCell_41 (by decide) (fun c6 => ?_) (fun c6 => ?_)
      · replace hf := oif c6 hf
        refine lv_aload_n hx hb dX0_copyCell_46 rfl (lv_at hl 2 rfl) ?_
        refine lv_iload_n hx hb dX0_copyCell_47 rfl (lv_at hl 5 rfl) ?_
        refine lv_iload hx hb dX0_copyCell_48 (lv_at hl 6 rfl) ?_
        refine lv_iload hx hb dX0_copyCell_50 (lv_at hl 1 rfl) ?_
        refine lv_lload hx hb dX0_copyCell_52 (lv_at hl 0 rfl) ?_
        obtain ⟨z7, hz7, hf⟩ := obd hf
        refine kwV (runV (As := [.int x3, .int x4, .int z3, .long z4]) (rest := []) C0 hE hAb hP ((hD.weaken (fun _ _ _ h9 => hAb _ h9)).addr rfl) hS [0, 1, 3, 4] (wc := [oX0 b b_keyCount b_sheetSet b_handSort b_handNumber, aI cI (b 1) 6 b_kinds, aI cI (b 3) 72 b_sorts, aJ cJ (b 4) 72 b_numbers]) (by decide) rfl 0 rfl rfl (c_X0_store l D cI cJ cZ cQ bs H.size b b_keyCount b_sheetSet b_handSort b_handNumber b_kinds b_sorts b_numbers x3 x4 z3 z4 z7 hz7) (cwV 4 hts gX0_copyCell_X0_store rfl rfl rfl (by decide +kernel) ⟨Nat.le_of_ble_eq_true rfl, Nat.le_of_ble_eq_true rfl⟩) rfl hl.1 rfl (Nat.le_of_ble_eq_true rfl) dX0_copyCell_54 ⟨Nat.le_of_ble_eq_true rfl, Nat.le_of_ble_eq_true rfl⟩) hS hP (hD.addr rfl) hA [0, 1, 3, 4] rfl rfl (ws' := [oX0 b b_keyCount b_sheetSet b_handSort b_handNumber, aI cI (b 1) 6 b_kinds, aI cI (b 2) 6 b_sizes, aI cI (b 3) 72 z7.1, aJ cJ (b 4) 72 z7.2]) rfl rfl (fun H locs hP hS => ?_)
        refine lv_iconst (v := 1) hx hb dX0_copyCell_57 (by decide) ?_
        have er := Option.some.inj hf
        exact rwZ (wm := (fun u => [oX0 b b_keyCount b_sheetSet b_handSort b_handNumber, aI cI (b 1) 6 b_kinds, aI cI (b 2) 6 b_sizes, aI cI (b 3) 72 u.1, aJ cJ (b 4) 72 u.2])) hx hb hr hS dX0_copyCell_58 hP er (by decide) hlocks
      · replace hf := oel c6 hf
        refine lv_iconst (v := 0) hx hb dX0_copyCell_44 (by decide) ?_
        have er := Option.some.inj hf
        exact rwZ (wm := (fun u => [oX0 b b_keyCount b_sheetSet b_handSort b_handNumber, aI cI (b 1) 6 b_kinds, aI cI (b 2) 6 b_sizes, aI cI (b 3) 72 u.1, aJ cJ (b 4) 72 u.2])) hx hb hr hS dX0_copyCell_45 hP er (by decide) hlocks
    · replace hf := oel c2 hf
      refine lv_iconst (v := 0) hx hb dX0_copyCell_11 (by decide) ?_
      have er := Option.some.inj hf
      exact rwZ (wm := (fun u => [oX0 b b_keyCount b_sheetSet b_handSort b_handNumber, aI cI (b 1) 6 b_kinds, aI cI (b 2) 6 b_sizes, aI cI (b 3) 72 u.1, aJ cJ (b 4) 72 u.2])) hx hb hr hS dX0_copyCell_12 hP er (by decide) hlocks
  exact go s.heap [] hP hS
noncomputable def f_X0_setHand (b_handSort : Int32) (b_handNumber : Int64) (x1 : Int32) (x2 : Int64) : Option (Int32 × Int64) := some ((x1, x2))
set_option maxHeartbeats 4000000 in
set_option maxRecDepth 100000 in
theorem c_X0_setHand (l : Launch) (D : va_G) (cI cJ cZ cQ : ClassId) (bs sz : Nat) (b : Nat → Nat) (b_keyCount : Int32) (b_sheetSet : Int32) (b_handSort : Int32) (b_handNumber : Int64) (x1 : Int32) (x2 : Int64) (zr : Int32 × Int64) (hf : f_X0_setHand b_handSort b_handNumber x1 x2 = some zr) : Met l yX0_setHand wsX0_setHand { frames := 0, cells := 0, slots := 0, locals := 0 } (va_Pc [.ref (b 0), .int x1, .long x2] (Pr D cI cJ cZ cQ bs sz [oX0 b b_keyCount b_sheetSet b_handSort b_handNumber])) (QwV D zr (fun u => [oX0 b b_keyCount b_sheetSet u.1 u.2]) (va_A [oX0 b b_keyCount b_sheetSet b_handSort b_handNumber] sz)) 0 0 (va_A [oX0 b b_keyCount b_sheetSet b_handSort b_handNumber] sz) := by
  refine stW (cc := cX0_setHand) (maxL := 4) (ret := none) (Qf := fun A => (QwV D zr (fun u => [oX0 b b_keyCount b_sheetSet u.1 u.2]) A)) (by decide +kernel) rfl (Nat.le_of_ble_eq_true rfl) ?_
  intro p e s m args below meth c A C0 hr hlocks hname hsz hP hD hA hAb hE ls hl
  obtain ⟨hx, hb, hml, hown, hts⟩ := id C0
  have hown : s.vm.findClass RX0 = some m.cls := hown
  obtain ⟨hK, hNW, -, tw, hZ, hT⟩ := id hE
  have hl : lv_has ls 4 [(0, .ref (b 0)), (1, .int x1), (2, .long x2)] := hl
  have hS : va_S A s.heap s.heap [] := va_S.rf
  have hI_X0 := (show ∀ w ∈ wsX00, w ∈ wsX0_setHand by decide +kernel)
  have gf37 := hts (.fieldLink RX0 37 "RowRanks$Bench" "handSort" "I") (by decide +kernel)
  have gf53 := hts (.fieldLink RX0 53 "RowRanks$Bench" "handNumber" "J") (by decide +kernel)
  unfold f_X0_setHand at hf
  have go : ∀ (H : Heap) (locs : List Loc), va_P D vwCl [oX0 b b_keyCount b_sheetSet b_handSort b_handNumber] H → va_S A s.heap H locs → W p l e { frames := 0, cells := 0, slots := 0, locals := 0 } s m args below meth c H locs 0 0 (MQ below (QwV D zr (fun u => [oX0 b b_keyCount b_sheetSet u.1 u.2]) A) args s 0 0 A) (F0 m 0 ls []) := by
    intro H locs hP hS
    refine lv_aload_n hx hb dX0_setHand_0 rfl (lv_at hl 0 rfl) ?_
    refine lv_iload_n hx hb dX0_setHand_1 rfl (lv_at hl 1 rfl) ?_
    refine va_put (D := D) (ci := 0) (v := .int x1) (ty := .int) (C := RX0) (T := TX0) (N := 12) hx hb hts hI_X0 tyX0 tyX0_ok nmX0 hown hK hP (hD.addr rfl) hS 0 rfl rfl 10 (by decide) gf37 (fun _ h9 => h9) rfl (by decide +kernel) rfl rfl (Nat.le_of_ble_eq_true rfl) dX0_setHand_2 (fun H locs hP _ hS => ?_)
    have hP : va_P D vwCl [oX0 b b_keyCount b_sheetSet x1 b_handNumber] H := hP
    refine lv_aload_n hx hb dX0_setHand_5 rfl (lv_at hl 0 rfl) ?_
    refine lv_lload_n hx hb dX0_setHand_6 rfl (lv_at hl 2 rfl) ?_
    refine va_put (D := D) (ci := 0) (v := .long x2) (ty := .long) (C := RX0) (T := TX0) (N := 12) hx hb hts hI_X0 tyX0 tyX0_ok nmX0 hown hK hP (hD.addr rfl) hS 0 rfl rfl 11 (by decide) gf53 (fun _ h9 => h9) rfl (by decide +kernel) rfl rfl (Nat.le_of_ble_eq_true rfl) dX0_setHand_7 (fun H locs hP _ hS => ?_)
    have hP : va_P D vwCl [oX0 b b_keyCount b_sheetSet x1 x2] H := hP
    have er := Option.some.inj hf
    exact rwV (wm := (fun u => [oX0 b b_keyCount b_sheetSet u.1 u.2])) hx hb hr hS dX0_setHand_10 hP er hlocks
  exact go s.heap [] hP hS
noncomputable def f_X5_isTag (x0 : Int64) : Option (Int32) := if (lg_cmp x0 0) < 0 then (some (0)) else (if 0 ≤ (lg_cmp x0 8) then (some (0)) else (some (1)))
set_option maxHeartbeats 4000000 in
set_option maxRecDepth 100000 in
theorem c_X5_isTag (l : Launch) (D : va_G) (cI cJ cZ cQ : ClassId) (bs sz : Nat) (x0 : Int64) (zr : Int32) (hf : f_X5_isTag x0 = some zr) : Met l yX5_isTag wsX5_isTag { frames := 0, cells := 0, slots := 0, locals := 0 } (va_Pc [.long x0] (Pr D cI cJ cZ cQ bs sz [])) (QrZ zr) 0 0 no := by
  refine stM (cc := cX5_isTag) (maxL := 2) (ret := (some .boolean)) (by decide +kernel) rfl (Nat.le_of_ble_eq_true rfl) ?_
  intro p e s m args below meth c C0 hr hlocks hname hsz hP hDb hE ls hl
  have hAb : ∀ q, no q → bs ≤ q := fun _ h => h.elim
  obtain ⟨hx, hb, hml, hown, hts⟩ := id C0
  have hown : s.vm.findClass RX5 = some m.cls := hown
  obtain ⟨hK, hNW, -, tw, hZ, hT⟩ := id hE
  have hl : lv_has ls 2 [(0, .long x0)] := hl
  have hS : va_S no s.heap s.heap [] := va_S.rf
  have gk273 := hts (.constantLong RX5 273 (8)) (by decide +kernel)
  unfold f_X5_isTag at hf
  have go : ∀ (H : Heap) (locs : List Loc), va_P D vwCl [] H → va_S no s.heap H locs → W p l e { frames := 0, cells := 0, slots := 0, locals := 0 } s m args below meth c H locs 0 0 (MQ below (QrZ zr) args s 0 0 no) (F0 m 0 ls []) := by
    intro H locs hP hS
    refine lv_lload_n hx hb dX5_isTag_0 rfl (lv_at hl 0 rfl) ?_
    refine lv_lconst (v := 0) hx hb dX5_isTag_1 (by decide) ?_
    refine W.lcmp hx hb dX5_isTag_2 ?_
    refine lv_if_lt (tgt := 18) hx hb dX5_isTag_3 (by decide) (fun c1 => ?_) (fun c1 => ?_)
    · replace hf := oif c1 hf
      refine lv_iconst (v := 0) hx hb dX5_isTag_18 (by decide) ?_
      have er := Option.some.inj hf
      exact rtZ hx hb hr hS dX5_isTag_19 er (by decide) hlocks
    · replace hf := oel c1 hf
      refine lv_lload_n hx hb dX5_isTag_6 rfl (lv_at hl 0 rfl) ?_
      refine lv_ldc2 hx hb hown gk273 dX5_isTag_7 ?_
      refine W.lcmp hx hb dX5_isTag_10 ?_
      refine lv_if_ge (tgt := 18) hx hb dX5_isTag_11 (by decide) (fun c2 => ?_) (fun c2 => ?_)
      · replace hf := oif c2 hf
        refine lv_iconst (v := 0) hx hb dX5_isTag_18 (by decide) ?_
        have er := Option.some.inj hf
        exact rtZ hx hb hr hS dX5_isTag_19 er (by decide) hlocks
      · replace hf := oel c2 hf
        refine lv_iconst (v := 1) hx hb dX5_isTag_14 (by decide) ?_
        refine lv_goto (tgt := 19) hx hb dX5_isTag_15 (by decide) ?_
        have er := Option.some.inj hf
        exact rtZ hx hb hr hS dX5_isTag_19 er (by decide) hlocks
  exact go s.heap [] hP hS
noncomputable def f_X0_weightOf (b_weights : Nat → Int32) (x1 : Int32) : Option (Int32) := (f_X5_isTag (Int32.toInt64 x1)).bind (fun z1 => if z1 = 0 then (some (0)) else (if ib x1 8 = true then (some ((b_weights x1.toNatClampNeg))) else none))
set_option maxHeartbeats 4000000 in
set_option maxRecDepth 100000 in
theorem c_X0_weightOf (l : Launch) (D : va_G) (cI cJ cZ cQ : ClassId) (bs sz : Nat) (b : Nat → Nat) (b_keyCount : Int32) (b_sheetSet : Int32) (b_handSort : Int32) (b_handNumber : Int64) (b_weights : Nat → Int32) (x1 : Int32) (zr : Int32) (hf : f_X0_weightOf b_weights x1 = some zr) : Met l yX0_weightOf wsX0_weightOf { frames := 1, cells := 0, slots := 0, locals := 21 } (va_Pc [.ref (b 0), .int x1] (Pr D cI cJ cZ cQ bs sz [oX0 b b_keyCount b_sheetSet b_handSort b_handNumber, aI cI (b 5) 8 b_weights])) (QrI zr) 0 0 no := by
  refine stM (cc := cX0_weightOf) (maxL := 2) (ret := (some .int)) (by decide +kernel) rfl (Nat.le_of_ble_eq_true rfl) ?_
  intro p e s m args below meth c C0 hr hlocks hname hsz hP hDb hE ls hl
  have hAb : ∀ q, no q → bs ≤ q := fun _ h => h.elim
  obtain ⟨hx, hb, hml, hown, hts⟩ := id C0
  have hown : s.vm.findClass RX0 = some m.cls := hown
  obtain ⟨hK, hNW, -, tw, hZ, hT⟩ := id hE
  have hl : lv_has ls 2 [(0, .ref (b 0)), (1, .int x1)] := hl
  have hS : va_S no s.heap s.heap [] := va_S.rf
  have gn121 := hNW (.methodLinkNest RX0 121 yX5_isTag RX5) (by decide +kernel)
  have giRX5 := hts (.initialized RX5) (by decide +kernel)
  have gsX5_isTag := hts (.static yX5_isTag) (by decide +kernel)
  have hI_X0 := (show ∀ w ∈ wsX00, w ∈ wsX0_weightOf by decide +kernel)
  have gf25 := hts (.fieldLink RX0 25 "RowRanks$Bench" "weights" "[I") (by decide +kernel)
  unfold f_X0_weightOf at hf
  have go : ∀ (H : Heap) (locs : List Loc), va_P D vwCl [oX0 b b_keyCount b_sheetSet b_handSort b_handNumber, aI cI (b 5) 8 b_weights] H → va_S no s.heap H locs → W p l e { frames := 1, cells := 0, slots := 0, locals := 21 } s m args below meth c H locs 0 0 (MQ below (QrI zr) args s 0 0 no) (F0 m 0 ls []) := by
    intro H locs hP hS
    refine lv_iload_n hx hb dX0_weightOf_0 rfl (lv_at hl 1 rfl) ?_
    refine lv_i2l (v := (Int32.toInt64 x1)) hx hb dX0_weightOf_1 rfl ?_
    obtain ⟨z1, hz1, hf⟩ := obd hf
    refine kZ (runSN (As := [.long (Int32.toInt64 x1)]) (rest := []) C0 hE hAb hP (hDb.addr rfl) hS [] (wc := []) (by decide) rfl (c_X5_isTag l D cI cJ cZ cQ bs H.size (Int32.toInt64 x1) z1 hz1) (va_cnB 1 hts ggX0_weightOf_X5_isTag rfl rfl rfl gn121 giRX5 (by decide +kernel) ⟨Nat.le_of_ble_eq_true rfl, Nat.le_of_ble_eq_true rfl⟩) gsX5_isTag rfl hl.1 rfl (Nat.le_of_ble_eq_true rfl) dX0_weightOf_2 ⟨Nat.le_of_ble_eq_true rfl, Nat.le_of_ble_eq_true rfl⟩) hS hP (fun bz1 H locs hP hS => ?_)
    refine lv_if_eq (tgt := 17) hx hb dX0_weightOf_5 (by decide) (fun c2 => ?_) (fun c2 => ?_)
    · replace hf := oif c2 hf
      refine lv_iconst (v := 0) hx hb dX0_weightOf_17 (by decide) ?_
      have er := Option.some.inj hf
      exact rtI hx hb hr hS dX0_weightOf_18 er hlocks
    · replace hf := oel c2 hf
      refine lv_aload_n hx hb dX0_weightOf_8 rfl (lv_at hl 0 rfl) ?_
      refine va_get (D := D) (ci := 0) (v := .ref (b 5)) (C := RX0) (T := TX0) (N := 12) hx hb hts hI_X0 hown hK hP 0 rfl rfl 4 (by decide) gf25 (fun _ h9 => h9) rfl dX0_weightOf_9 ?_
      refine lv_iload_n hx hb dX0_weightOf_12 rfl (lv_at hl 1 rfl) ?_
      obtain ⟨h3, hf⟩ := ogd hf
      refine va_iald hx hb hK hP 1 0 rfl rfl (ib_in h3) dX0_weightOf_13 ?_
      refine lv_goto (tgt := 18) hx hb dX0_weightOf_14 (by decide) ?_
      have er := Option.some.inj hf
      exact rtI hx hb hr hS dX0_weightOf_18 er hlocks
  exact go s.heap [] hP hS
noncomputable def f_X0_setWeight (b_weights : Nat → Int32) (x1 : Int32) (x2 : Int32) : Option ((Nat → Int32)) := (f_X5_isTag (Int32.toInt64 x1)).bind (fun z1 => if z1 = 0 then (some (b_weights)) else (if ib x1 8 = true then ((some (upd b_weights x1.toNatClampNeg x2 : Nat → Int32)).bind (fun h3a => some (h3a))) else none))
set_option maxHeartbeats 4000000 in
set_option maxRecDepth 100000 in
theorem c_X0_setWeight (l : Launch) (D : va_G) (cI cJ cZ cQ : ClassId) (bs sz : Nat) (b : Nat → Nat) (b_keyCount : Int32) (b_sheetSet : Int32) (b_handSort : Int32) (b_handNumber : Int64) (b_weights : Nat → Int32) (x1 : Int32) (x2 : Int32) (zr : (Nat → Int32)) (hf : f_X0_setWeight b_weights x1 x2 = some zr) : Met l yX0_setWeight wsX0_setWeight { frames := 1, cells := 0, slots := 0, locals := 21 } (va_Pc [.ref (b 0), .int x1, .int x2] (Pr D cI cJ cZ cQ bs sz [oX0 b b_keyCount b_sheetSet b_handSort b_handNumber, aI cI (b 5) 8 b_weights])) (QwV D zr (fun u => [oX0 b b_keyCount b_sheetSet b_handSort b_handNumber, aI cI (b 5) 8 u]) (va_A [oX0 b b_keyCount b_sheetSet b_handSort b_handNumber, aI cI (b 5) 8 b_weights] sz)) 0 0 (va_A [oX0 b b_keyCount b_sheetSet b_handSort b_handNumber, aI cI (b 5) 8 b_weights] sz) := by
  refine stW (cc := cX0_setWeight) (maxL := 3) (ret := none) (Qf := fun A => (QwV D zr (fun u => [oX0 b b_keyCount b_sheetSet b_handSort b_handNumber, aI cI (b 5) 8 u]) A)) (by decide +kernel) rfl (Nat.le_of_ble_eq_true rfl) ?_
  intro p e s m args below meth c A C0 hr hlocks hname hsz hP hD hA hAb hE ls hl
  obtain ⟨hx, hb, hml, hown, hts⟩ := id C0
  have hown : s.vm.findClass RX0 = some m.cls := hown
  obtain ⟨hK, hNW, -, tw, hZ, hT⟩ := id hE
  have hl : lv_has ls 3 [(0, .ref (b 0)), (1, .int x1), (2, .int x2)] := hl
  have hS : va_S A s.heap s.heap [] := va_S.rf
  have gn121 := hNW (.methodLinkNest RX0 121 yX5_isTag RX5) (by decide +kernel)
  have giRX5 := hts (.initialized RX5) (by decide +kernel)
  have gsX5_isTag := hts (.static yX5_isTag) (by decide +kernel)
  have hI_X0 := (show ∀ w ∈ wsX00, w ∈ wsX0_setWeight by decide +kernel)
  have gf25 := hts (.fieldLink RX0 25 "RowRanks$Bench" "weights" "[I") (by decide +kernel)
  unfold f_X0_setWeight at hf
  have go : ∀ (H : Heap) (locs : List Loc), va_P D vwCl [oX0 b b_keyCount b_sheetSet b_handSort b_handNumber, aI cI (b 5) 8 b_weights] H → va_S A s.heap H locs → W p l e { frames := 1, cells := 0, slots := 0, locals := 21 } s m args below meth c H locs 0 0 (MQ below (QwV D zr (fun u => [oX0 b b_keyCount b_sheetSet b_handSort b_handNumber, aI cI (b 5) 8 u]) A) args s 0 0 A) (F0 m 0 ls []) := by
    intro H locs hP hS
    refine lv_iload_n hx hb dX0_setWeight_0 rfl (lv_at hl 1 rfl) ?_
    refine lv_i2l (v := (Int32.toInt64 x1)) hx hb dX0_setWeight_1 rfl ?_
    obtain ⟨z1, hz1, hf⟩ := obd hf
    refine kZ (runSN (As := [.long (Int32.toInt64 x1)]) (rest := []) C0 hE hAb hP ((hD.weaken (fun _ _ _ h9 => hAb _ h9)).addr rfl) hS [] (wc := []) (by decide) rfl (c_X5_isTag l D cI cJ cZ cQ bs H.size (Int32.toInt64 x1) z1 hz1) (va_cnB 1 hts ggX0_setWeight_X5_isTag rfl rfl rfl gn121 giRX5 (by decide +kernel) ⟨Nat.le_of_ble_eq_true rfl, Nat.le_of_ble_eq_true rfl⟩) gsX5_isTag rfl hl.1 rfl (Nat.le_of_ble_eq_true rfl) dX0_setWeight_2 ⟨Nat.le_of_ble_eq_true rfl, Nat.le_of_ble_eq_true rfl⟩) hS hP (fun bz1 H locs hP hS => ?_)
    refine lv_if_eq (tgt := 15) hx hb dX0_setWeight_5 (by decide) (fun c2 => ?_) (fun c2 => ?_)
    · replace hf := oif c2 hf
      have er := Option.some.inj hf
      exact rwV (wm := (fun u => [oX0 b b_keyCount b_sheetSet b_handSort b_handNumber, aI cI (b 5) 8 u])) hx hb hr hS dX0_setWeight_15 hP er hlocks
    · replace hf := oel c2 hf
      refine lv_aload_n hx hb dX0_setWeight_8 rfl (lv_at hl 0 rfl) ?_
      refine va_get (D := D) (ci := 0) (v := .ref (b 5)) (C := RX0) (T := TX0) (N := 12) hx hb hts hI_X0 hown hK hP 0 rfl rfl 4 (by decide) gf25 (fun _ h9 => h9) rfl dX0_setWeight_9 ?_
      refine lv_iload_n hx hb dX0_setWeight_12 rfl (lv_at hl 1 rfl) ?_
      refine lv_iload_n hx hb dX0_setWeight_13 rfl (lv_at hl 2 rfl) ?_
      obtain ⟨h3, hf⟩ := ogd hf
      refine va_iast hx hb hK hP (hD.addr rfl) hS 1 0 rfl rfl (ib_in h3) dX0_setWeight_14 (fun H locs hP _ hS => ?_)
      obtain ⟨h3a, eh3a⟩ : ∃ y : Nat → Int32, y = upd b_weights x1.toNatClampNeg x2 := ⟨_, rfl⟩
      replace hf := onm eh3a hf
      have hP : va_P D vwCl [oX0 b b_keyCount b_sheetSet b_handSort b_handNumber, aI cI (b 5) 8 h3a] H := by rw [eh3a]; exact hP
      have er := Option.some.inj hf
      exact rwV (wm := (fun u => [oX0 b b_keyCount b_sheetSet b_handSort b_handNumber, aI cI (b 5) 8 u])) hx hb hr hS dX0_setWeight_15 hP er hlocks
  exact go s.heap [] hP hS
noncomputable def f_X0_heft (b_weights : Nat → Int32) (x1 : Int64) : Option (Int32) := if (lg_cmp x1 0) < 0 then (some (0)) else (if (lg_cmp x1 8) < 0 then (if (lg_cmp x1 4) < 0 then (if ib (Int64.toInt32 x1) 8 = true then (some ((b_weights (Int64.toInt32 x1).toNatClampNeg))) else none) else (if ib (Int64.toInt32 x1) 8 = true then (some ((2 * (b_weights (Int64.toInt32 x1).toNatClampNeg)))) else none)) else (some (0)))
set_option maxHeartbeats 4000000 in
set_option maxRecDepth 100000 in
theorem c_X0_heft (l : Launch) (D : va_G) (cI cJ cZ cQ : ClassId) (bs sz : Nat) (b : Nat → Nat) (b_keyCount : Int32) (b_sheetSet : Int32) (b_handSort : Int32) (b_handNumber : Int64) (b_weights : Nat → Int32) (x1 : Int64) (zr : Int32) (hf : f_X0_heft b_weights x1 = some zr) : Met l yX0_heft wsX0_heft { frames := 0, cells := 0, slots := 0, locals := 0 } (va_Pc [.ref (b 0), .long x1] (Pr D cI cJ cZ cQ bs sz [oX0 b b_keyCount b_sheetSet b_handSort b_handNumber, aI cI (b 5) 8 b_weights])) (QrI zr) 0 0 no := by
  refine stM (cc := cX0_heft) (maxL := 3) (ret := (some .int)) (by decide +kernel) rfl (Nat.le_of_ble_eq_true rfl) ?_
  intro p e s m args below meth c C0 hr hlocks hname hsz hP hDb hE ls hl
  have hAb : ∀ q, no q → bs ≤ q := fun _ h => h.elim
  obtain ⟨hx, hb, hml, hown, hts⟩ := id C0
  have hown : s.vm.findClass RX0 = some m.cls := hown
  obtain ⟨hK, hNW, -, tw, hZ, hT⟩ := id hE
  have hl : lv_has ls 3 [(0, .ref (b 0)), (1, .long x1)] := hl
  have hS : va_S no s.heap s.heap [] := va_S.rf
  have gk125 := hts (.constantLong RX0 125 (8)) (by decide +kernel)
  have gk97 := hts (.constantLong RX0 97 (4)) (by decide +kernel)
  have hI_X0 := (show ∀ w ∈ wsX00, w ∈ wsX0_heft by decide +kernel)
  have gf25 := hts (.fieldLink RX0 25 "RowRanks$Bench" "weights" "[I") (by decide +kernel)
  unfold f_X0_heft at hf
  have go : ∀ (H : Heap) (locs : List Loc), va_P D vwCl [oX0 b b_keyCount b_sheetSet b_handSort b_handNumber, aI cI (b 5) 8 b_weights] H → va_S no s.heap H locs → W p l e { frames := 0, cells := 0, slots := 0, locals := 0 } s m args below meth c H locs 0 0 (MQ below (QrI zr) args s 0 0 no) (F0 m 0 ls []) := by
    intro H locs hP hS
    refine lv_lload_n hx hb dX0_heft_0 rfl (lv_at hl 1 rfl) ?_
    refine lv_lconst (v := 0) hx hb dX0_heft_1 (by decide) ?_
    refine W.lcmp hx hb dX0_heft_2 ?_
    refine lv_if_lt (tgt := 14) hx hb dX0_heft_3 (by decide) (fun c1 => ?_) (fun c1 => ?_)
    · replace hf := oif c1 hf
      refine lv_iconst (v := 0) hx hb dX0_heft_14 (by decide) ?_
      have er := Option.some.inj hf
      exact rtI hx hb hr hS dX0_heft_15 er hlocks
    · replace hf := oel c1 hf
      refine lv_lload_n hx hb dX0_heft_6 rfl (lv_at hl 1 rfl) ?_
      refine lv_ldc2 hx hb hown gk125 dX0_heft_7 ?_
      refine W.lcmp hx hb dX0_heft_10 ?_
      refine lv_if_lt (tgt := 16) hx hb dX0_heft_11 (by decide) (fun c2 => ?_) (fun c2 => ?_)
      · replace hf := oif c2 hf
        refine lv_lload_n hx hb dX0_heft_16 rfl (lv_at hl 1 rfl) ?_
        refine lv_ldc2 hx hb hown gk97 dX0_heft_17 ?_
        refine W.lcmp hx hb dX0_heft_20 ?_
        refine lv_if_lt (tgt := 36) hx hb dX0_heft_21 (by decide) (fun c3 => ?_) (fun c3 => ?_)
        · replace hf := oif c3 hf
          refine lv_aload_n hx hb dX0_heft_36 rfl (lv_at hl 0 rfl) ?_
          refine va_get (D := D) (ci := 0) (v := .ref (b 5)) (C := RX0) (T := TX0) (N := 12) hx hb hts hI_X0 hown hK hP 0 rfl rfl 4 (by decide) gf25 (fun _ h9 => h9) rfl dX0_heft_37 ?_
          refine lv_lload_n hx hb dX0_heft_40 rfl (lv_at hl 1 rfl) ?_
          refine lv_l2i (v := (Int64.toInt32 x1)) hx hb dX0_heft_41 rfl ?_
          obtain ⟨h4, hf⟩ := ogd hf
          refine va_iald hx hb hK hP 1 0 rfl rfl (ib_in h4) dX0_heft_42 ?_
          have er := Option.some.inj hf
          exact rtI hx hb hr hS dX0_heft_43 er hlocks
        · replace hf := oel c3 hf
          refine lv_iconst (v := 2) hx hb dX0_heft_24 (by decide) ?_
          refine lv_aload_n hx hb dX0_heft_25 rfl (lv_at hl 0 rfl) ?_
          refine va_get (D := D) (ci := 0) (v := .ref (b 5)) (C := RX0) (T := TX0) (N := 12) hx hb hts hI_X0 hown hK hP 0 rfl rfl 4 (by decide) gf25 (fun _ h9 => h9) rfl dX0_heft_26 ?_
          refine lv_lload_n hx hb dX0_heft_29 rfl (lv_at hl 1 rfl) ?_
          refine lv_l2i (v := (Int64.toInt32 x1)) hx hb dX0_heft_30 rfl ?_
          obtain ⟨h5, hf⟩ := ogd hf
          refine va_iald hx hb hK hP 1 0 rfl rfl (ib_in h5) dX0_heft_31 ?_
          refine lv_imul hx hb dX0_heft_32 ?_
          refine lv_goto (tgt := 43) hx hb dX0_heft_33 (by decide) ?_
          have er := Option.some.inj hf
          exact rtI hx hb hr hS dX0_heft_43 er hlocks
      · replace hf := oel c2 hf
        refine lv_iconst (v := 0) hx hb dX0_heft_14 (by decide) ?_
        have er := Option.some.inj hf
        exact rtI hx hb hr hS dX0_heft_15 er hlocks
  exact go s.heap [] hP hS
noncomputable def L_X0_cellsWithTag_13 (b_sizes : Nat → Int32) (b_sorts : Nat → Int32) (b_numbers : Nat → Int64) (v1 : Int32) (v3 : Int32) : Nat → Int32 → Int32 → Option (Int32)
  | 0, _, _ => none
  | n + 1, v2, v4 => (f_X0_sizeOf b_sizes v3).bind (fun z2 => if z2 ≤ v4 then (some (v2)) else ((f_X0_sortAt b_sorts v3 v4).bind (fun z4 => if z4 = 8 then ((f_X0_numberAt b_numbers v3 v4).bind (fun z7 => if (lg_cmp z7 (Int32.toInt64 v1)) = 0 then ((some (v2 + 1 : Int32)).bind (fun y10 => (some (v4 + 1 : Int32)).bind (fun y11 => L_X0_cellsWithTag_13 b_sizes b_sorts b_numbers v1 v3 n y10 y11))) else ((some (v4 + 1 : Int32)).bind (fun y9 => L_X0_cellsWithTag_13 b_sizes b_sorts b_numbers v1 v3 n v2 y9)))) else ((some (v4 + 1 : Int32)).bind (fun y6 => L_X0_cellsWithTag_13 b_sizes b_sorts b_numbers v1 v3 n v2 y6)))))
noncomputable def L_X0_cellsWithTag_4 (b_sizes : Nat → Int32) (b_sorts : Nat → Int32) (b_numbers : Nat → Int64) (v1 : Int32) : Nat → Int32 → Int32 → Option (Int32)
  | 0, _, _ => none
  | n + 1, v2, v3 => if 6 ≤ v3 then (some (v2)) else ((L_X0_cellsWithTag_13 b_sizes b_sorts b_numbers v1 v3 4000 v2 0).bind (fun z12 => (some (v3 + 1 : Int32)).bind (fun y13 => L_X0_cellsWithTag_4 b_sizes b_sorts b_numbers v1 n z12 y13)))
noncomputable def f_X0_cellsWithTag (b_sizes : Nat → Int32) (b_sorts : Nat → Int32) (b_numbers : Nat → Int64) (x1 : Int32) : Option (Int32) := (L_X0_cellsWithTag_4 b_sizes b_sorts b_numbers x1 4000 0 0).bind (fun z14 => some (z14))
set_option maxHeartbeats 4000000 in
set_option maxRecDepth 100000 in
theorem c_X0_cellsWithTag (l : Launch) (D : va_G) (cI cJ cZ cQ : ClassId) (bs sz : Nat) (b : Nat → Nat) (b_keyCount : Int32) (b_sheetSet : Int32) (b_handSort : Int32) (b_handNumber : Int64) (b_sizes : Nat → Int32) (b_sorts : Nat → Int32) (b_numbers : Nat → Int64) (x1 : Int32) (zr : Int32) (hf : f_X0_cellsWithTag b_sizes b_sorts b_numbers x1 = some zr) : Met l yX0_cellsWithTag wsX0_cellsWithTag { frames := 2, cells := 0, slots := 0, locals := 43 } (va_Pc [.ref (b 0), .int x1] (Pr D cI cJ cZ cQ bs sz [oX0 b b_keyCount b_sheetSet b_handSort b_handNumber, aI cI (b 2) 6 b_sizes, aI cI (b 3) 72 b_sorts, aJ cJ (b 4) 72 b_numbers])) (QrI zr) 0 0 no := by
  refine stM (cc := cX0_cellsWithTag) (maxL := 5) (ret := (some .int)) (by decide +kernel) rfl (Nat.le_of_ble_eq_true rfl) ?_
  intro p e s m args below meth c C0 hr hlocks hname hsz hP hDb hE ls hl
  have hAb : ∀ q, no q → bs ≤ q := fun _ h => h.elim
  obtain ⟨hx, hb, hml, hown, hts⟩ := id C0
  have hown : s.vm.findClass RX0 = some m.cls := hown
  obtain ⟨hK, hNW, -, tw, hZ, hT⟩ := id hE
  have hl : lv_has ls 5 [(0, .ref (b 0)), (1, .int x1)] := hl
  have hS : va_S no s.heap s.heap [] := va_S.rf
  have W13 : ∀ (n : Nat) (v1 : Int32) (v2 : Int32) (v3 : Int32) (v4 : Int32) (H : Heap) (locs : List Loc) (ls : Array Slot) (z : Int32), va_P D vwCl [oX0 b b_keyCount b_sheetSet b_handSort b_handNumber, aI cI (b 2) 6 b_sizes, aI cI (b 3) 72 b_sorts, aJ cJ (b 4) 72 b_numbers] H → va_S no s.heap H locs → lv_has ls 5 [(0, .ref (b 0)), (1, .int v1), (2, .int v2), (3, .int v3), (4, .int v4)] → L_X0_cellsWithTag_13 b_sizes b_sorts b_numbers v1 v3 n v2 v4 = some z → (∀ (H : Heap) (locs : List Loc) (ls : Array Slot), va_P D vwCl [oX0 b b_keyCount b_sheetSet b_handSort b_handNumber, aI cI (b 2) 6 b_sizes, aI cI (b 3) 72 b_sorts, aJ cJ (b 4) 72 b_numbers] H → va_S no s.heap H locs → lv_has ls 5 [(0, .ref (b 0)), (1, .int v1), (2, .int z), (3, .int v3)] → W p l e { frames := 2, cells := 0, slots := 0, locals := 43 } s m args below meth c H locs 0 0 (MQ below (QrI zr) args s 0 0 no) (F0 m 57 ls [])) → W p l e { frames := 2, cells := 0, slots := 0, locals := 43 } s m args below meth c H locs 0 0 (MQ below (QrI zr) args s 0 0 no) (F0 m 13 ls []) := by
    intro n
    induction n with
    | zero =>
      intro v1 v2 v3 v4 H locs ls z hP hS hl hf
      exact absurd (show (none : Option (Int32)) = some z from hf) (fun h => by cases h)
    | succ n ih =>
      intro v1 v2 v3 v4 H locs ls z hP hS hl hf K
      rw [L_X0_cellsWithTag_13] at hf
      refine lv_iload hx hb dX0_cellsWithTag_13 (lv_at hl 4 rfl) ?_
      refine lv_aload_n hx hb dX0_cellsWithTag_15 rfl (lv_at hl 0 rfl) ?_
      refine lv_iload_n hx hb dX0_cellsWithTag_16 rfl (lv_at hl 3 rfl) ?_
      obtain ⟨z2, hz2, hf⟩ := obd hf
      refine kI (runV (As := [.int v3]) (rest := [.int v4]) C0 hE hAb hP (hDb.addr rfl) hS [0, 1] (wc := [oX0 b b_keyCount b_sheetSet b_handSort b_handNumber, aI cI (b 2) 6 b_sizes]) (by decide) rfl 0 rfl rfl (c_X0_sizeOf l D cI cJ cZ cQ bs H.size b b_keyCount b_sheetSet b_handSort b_handNumber b_sizes v3 z2 hz2) (cwV 1 hts gX0_cellsWithTag_X0_sizeOf rfl rfl rfl (by decide +kernel) ⟨Nat.le_of_ble_eq_true rfl, Nat.le_of_ble_eq_true rfl⟩) rfl hl.1 rfl (Nat.le_of_ble_eq_true rfl) dX0_cellsWithTag_17 ⟨Nat.le_of_ble_eq_true rfl, Nat.le_of_ble_eq_true rfl⟩) hS hP (fun H locs hP hS => ?_)
      refine lv_icmp_ge (tgt := 57) hx hb dX0_cellsWithTag_20 (by decide) (fun c3 => ?_) (fun c3 => ?_)
      · replace hf := oif c3 hf
        have hf := Option.some.inj hf
        subst hf
        exact K H locs ls hP hS (lv_sub hl [0, 1, 2, 3] rfl)
      · replace hf := oel c3 hf
        refine lv_aload_n hx hb dX0_cellsWithTag_23 rfl (lv_at hl 0 rfl) ?_
        refine lv_iload_n hx hb dX0_cellsWithTag_24 rfl (lv_at hl 3 rfl) ?_
        refine lv_iload hx hb dX0_cellsWithTag_25 (lv_at hl 4 rfl) ?_
        obtain ⟨z4, hz4, hf⟩ := obd hf
        refine kI (runV (As := [.int v3, .int v4]) (rest := []) C0 hE hAb hP (hDb.addr rfl) hS [0, 2] (wc := [oX0 b b_keyCount b_sheetSet b_handSort b_handNumber, aI cI (b 3) 72 b_sorts]) (by decide) rfl 0 rfl rfl (c_X0_sortAt l D cI cJ cZ cQ bs H.size b b_keyCount b_sheetSet b_handSort b_handNumber b_sorts v3 v4 z4 hz4) (cwV 2 hts gX0_cellsWithTag_X0_sortAt rfl rfl rfl (by decide +kernel) ⟨Nat.le_of_ble_eq_true rfl, Nat.le_of_ble_eq_true rfl⟩) rfl hl.1 rfl (Nat.le_of_ble_eq_true rfl) dX0_cellsWithTag_27 ⟨Nat.le_of_ble_eq_true rfl, Nat.le_of_ble_eq_true rfl⟩) hS hP (fun H locs hP hS => ?_)
        refine lv_bipush (v := 8) hx hb dX0_cellsWithTag_30 (by decide) ?_
        refine lv_icmp_ne (tgt := 51) hx hb dX0_cellsWithTag_32 (by decide) (fun c5 => ?_) (fun c5 => ?_)
        · replace hf := oel c5 hf
          obtain ⟨y6, ey6⟩ : ∃ y : Int32, y = v4 + 1 := ⟨_, rfl⟩
          replace hf := onm ey6 hf
          refine lv_iinc (v := y6) (lv' := [(4, .int y6), (0, .ref (b 0)), (1, .int v1), (2, .int v2), (3, .int v3)]) hx hb dX0_cellsWithTag_51 hl (k := 4) rfl (by rw [ey6]; rfl) (by decide) rfl (fun ls hl => ?_)
          refine lv_goto (tgt := 13) hx hb dX0_cellsWithTag_54 (by decide) ?_
          exact ih v1 v2 v3 y6 H locs ls z hP hS (lv_sub hl [1, 2, 3, 4, 0] rfl) hf K
        · replace hf := oif c5 hf
          refine lv_aload_n hx hb dX0_cellsWithTag_35 rfl (lv_at hl 0 rfl) ?_
          refine lv_iload_n hx hb dX0_cellsWithTag_36 rfl (lv_at hl 3 rfl) ?_
          refine lv_iload hx hb dX0_cellsWithTag_37 (lv_at hl 4 rfl) ?_
          obtain ⟨z7, hz7, hf⟩ := obd hf
          refine kJ (runV (As := [.int v3, .int v4]) (rest := []) C0 hE hAb hP (hDb.addr rfl) hS [0, 3] (wc := [oX0 b b_keyCount b_sheetSet b_handSort b_handNumber, aJ cJ (b 4) 72 b_numbers]) (by decide) rfl 0 rfl rfl (c_X0_numberAt l D cI cJ cZ cQ bs H.size b b_keyCount b_sheetSet b_handSort b_handNumber b_numbers v3 v4 z7 hz7) (cwV 2 hts gX0_cellsWithTag_X0_numberAt rfl rfl rfl (by decide +kernel) ⟨Nat.le_of_ble_eq_true rfl, Nat.le_of_ble_eq_true rfl⟩) rfl hl.1 rfl (Nat.le_of_ble_eq_true rfl) dX0_cellsWithTag_39 ⟨Nat.le_of_ble_eq_true rfl, Nat.le_of_ble_eq_true rfl⟩) hS hP (fun H locs hP hS => ?_)
          refine lv_iload_n hx hb dX0_cellsWithTag_42 rfl (lv_at hl 1 rfl) ?_
          refine lv_i2l (v := (Int32.toInt64 v1)) hx hb dX0_cellsWithTag_43 rfl ?_
          refine W.lcmp hx hb dX0_cellsWithTag_44 ?_
          refine lv_if_ne (tgt := 51) hx hb dX0_cellsWithTag_45 (by decide) (fun c8 => ?_) (fun c8 => ?_)
          · replace hf := oel c8 hf
            obtain ⟨y9, ey9⟩ : ∃ y : Int32, y = v4 + 1 := ⟨_, rfl⟩
            replace hf := onm ey9 hf
            refine lv_iinc (v := y9) (lv' := [(4, .int y9), (0, .ref (b 0)), (1, .int v1), (2, .int v2), (3, .int v3)]) hx hb dX0_cellsWithTag_51 hl (k := 4) rfl (by rw [ey9]; rfl) (by decide) rfl (fun ls hl => ?_)
            refine lv_goto (tgt := 13) hx hb dX0_cellsWithTag_54 (by decide) ?_
            exact ih v1 v2 v3 y9 H locs ls z hP hS (lv_sub hl [1, 2, 3, 4, 0] rfl) hf K
          · replace hf := oif c8 hf
            obtain ⟨y10, ey10⟩ : ∃ y : Int32, y = v2 + 1 := ⟨_, rfl⟩
            replace hf := onm ey10 hf
            refine lv_iinc (v := y10) (lv' := [(2, .int y10), (0, .ref (b 0)), (1, .int v1), (3, .int v3), (4, .int v4)]) hx hb dX0_cellsWithTag_48 hl (k := 2) rfl (by rw [ey10]; rfl) (by decide) rfl (fun ls hl => ?_)
            obtain ⟨y11, ey11⟩ : ∃ y : Int32, y = v4 + 1 := ⟨_, rfl⟩
            replace hf := onm ey11 hf
            refine lv_iinc (v := y11) (lv' := [(4, .int y11), (2, .int y10), (0, .ref (b 0)), (1, .int v1), (3, .int v3)]) hx hb dX0_cellsWithTag_51 hl (k := 4) rfl (by rw [ey11]; rfl) (by decide) rfl (fun ls hl => ?_)
            refine lv_goto (tgt := 13) hx hb dX0_cellsWithTag_54 (by decide) ?_
            exact ih v1 y10 v3 y11 H locs ls z hP hS (lv_sub hl [2, 3, 1, 4, 0] rfl) hf K
  have W4 : ∀ (n : Nat) (v1 : Int32) (v2 : Int32) (v3 : Int32) (H : Heap) (locs : List Loc) (ls : Array Slot) (z : Int32), va_P D vwCl [oX0 b b_keyCount b_sheetSet b_handSort b_handNumber, aI cI (b 2) 6 b_sizes, aI cI (b 3) 72 b_sorts, aJ cJ (b 4) 72 b_numbers] H → va_S no s.heap H locs → lv_has ls 5 [(0, .ref (b 0)), (1, .int v1), (2, .int v2), (3, .int v3)] → L_X0_cellsWithTag_4 b_sizes b_sorts b_numbers v1 n v2 v3 = some z → (∀ (H : Heap) (locs : List Loc) (ls : Array Slot), va_P D vwCl [oX0 b b_keyCount b_sheetSet b_handSort b_handNumber, aI cI (b 2) 6 b_sizes, aI cI (b 3) 72 b_sorts, aJ cJ (b 4) 72 b_numbers] H → va_S no s.heap H locs → lv_has ls 5 [(2, .int z)] → W p l e { frames := 2, cells := 0, slots := 0, locals := 43 } s m args below meth c H locs 0 0 (MQ below (QrI zr) args s 0 0 no) (F0 m 63 ls [])) → W p l e { frames := 2, cells := 0, slots := 0, locals := 43 } s m args below meth c H locs 0 0 (MQ below (QrI zr) args s 0 0 no) (F0 m 4 ls []) := by
    intro n
    induction n with
    | zero =>
      intro v1 v2 v3 H locs ls z hP hS hl hf
      exact absurd (show (none : Option (Int32)) = some z from hf) (fun h => by cases h)
    | succ n ih =>
      intro v1 v2 v3 H locs ls z hP hS hl hf K
      rw [L_X0_cellsWithTag_4] at hf
      refine lv_iload_n hx hb dX0_cellsWithTag_4 rfl (lv_at hl 3 rfl) ?_
      refine lv_bipush (v := 6) hx hb dX0_cellsWithTag_5 (by decide) ?_
      refine lv_icmp_ge (tgt := 63) hx hb dX0_cellsWithTag_7 (by decide) (fun c1 => ?_) (fun c1 => ?_)
      · replace hf := oif c1 hf
        have hf := Option.some.inj hf
        subst hf
        exact K H locs ls hP hS (lv_sub hl [2] rfl)
      · replace hf := oel c1 hf
        refine lv_iconst (v := 0) hx hb dX0_cellsWithTag_10 (by decide) ?_
        refine lv_istore (lv' := [(4, .int 0), (0, .ref (b 0)), (1, .int v1), (2, .int v2), (3, .int v3)]) hx hb dX0_cellsWithTag_11 hl (by decide) rfl (fun ls hl => ?_)
        obtain ⟨z12, hz12, hf⟩ := obd hf
        refine W13 4000 v1 v2 v3 0 H locs ls z12 hP hS (lv_sub hl [1, 2, 3, 4, 0] rfl) hz12 (fun H locs ls hP hS hl => ?_)
        obtain ⟨y13, ey13⟩ : ∃ y : Int32, y = v3 + 1 := ⟨_, rfl⟩
        replace hf := onm ey13 hf
        refine lv_iinc (v := y13) (lv' := [(3, .int y13), (0, .ref (b 0)), (1, .int v1), (2, .int z12)]) hx hb dX0_cellsWithTag_57 hl (k := 3) rfl (by rw [ey13]; rfl) (by decide) rfl (fun ls hl => ?_)
        refine lv_goto (tgt := 4) hx hb dX0_cellsWithTag_60 (by decide) ?_
        exact ih v1 z12 y13 H locs ls z hP hS (lv_sub hl [1, 2, 3, 0] rfl) hf K
  unfold f_X0_cellsWithTag at hf
  have go : ∀ (H : Heap) (locs : List Loc), va_P D vwCl [oX0 b b_keyCount b_sheetSet b_handSort b_handNumber, aI cI (b 2) 6 b_sizes, aI cI (b 3) 72 b_sorts, aJ cJ (b 4) 72 b_numbers] H → va_S no s.heap H locs → W p l e { frames := 2, cells := 0, slots := 0, locals := 43 } s m args below meth c H locs 0 0 (MQ below (QrI zr) args s 0 0 no) (F0 m 0 ls []) := by
    intro H locs hP hS
    refine lv_iconst (v := 0) hx hb dX0_cellsWithTag_0 (by decide) ?_
    refine lv_istore_n (lv' := [(2, .int 0), (0, .ref (b 0)), (1, .int x1)]) hx hb dX0_cellsWithTag_1 rfl hl (by decide) rfl (fun ls hl => ?_)
    refine lv_iconst (v := 0) hx hb dX0_cellsWithTag_2 (by decide) ?_
    refine lv_istore_n (lv' := [(3, .int 0), (2, .int 0), (0, .ref (b 0)), (1, .int x1)]) hx hb dX0_cellsWithTag_3 rfl hl (by decide) rfl (fun ls hl => ?_)
    obtain ⟨z14, hz14, hf⟩ := obd hf
    refine W4 4000 x1 0 0 H locs ls z14 hP hS (lv_sub hl [2, 3, 1, 0] rfl) hz14 (fun H locs ls hP hS hl => ?_)
    refine lv_iload_n hx hb dX0_cellsWithTag_63 rfl (lv_at hl 0 rfl) ?_
    have er := Option.some.inj hf
    exact rtI hx hb hr hS dX0_cellsWithTag_64 er hlocks
  exact go s.heap [] hP hS
noncomputable def f_X0_keySlot (b_keySlots : Nat → Int32) (x1 : Int32) : Option (Int32) := if x1 < 0 then (some (0)) else (if 4 ≤ x1 then (some (0)) else (if ib x1 4 = true then (some ((b_keySlots x1.toNatClampNeg))) else none))
set_option maxHeartbeats 4000000 in
set_option maxRecDepth 100000 in
theorem c_X0_keySlot (l : Launch) (D : va_G) (cI cJ cZ cQ : ClassId) (bs sz : Nat) (b : Nat → Nat) (b_keyCount : Int32) (b_sheetSet : Int32) (b_handSort : Int32) (b_handNumber : Int64) (b_keySlots : Nat → Int32) (x1 : Int32) (zr : Int32) (hf : f_X0_keySlot b_keySlots x1 = some zr) : Met l yX0_keySlot wsX0_keySlot { frames := 0, cells := 0, slots := 0, locals := 0 } (va_Pc [.ref (b 0), .int x1] (Pr D cI cJ cZ cQ bs sz [oX0 b b_keyCount b_sheetSet b_handSort b_handNumber, aI cI (b 6) 4 b_keySlots])) (QrI zr) 0 0 no := by
  refine stM (cc := cX0_keySlot) (maxL := 2) (ret := (some .int)) (by decide +kernel) rfl (Nat.le_of_ble_eq_true rfl) ?_
  intro p e s m args below meth c C0 hr hlocks hname hsz hP hDb hE ls hl
  have hAb : ∀ q, no q → bs ≤ q := fun _ h => h.elim
  obtain ⟨hx, hb, hml, hown, hts⟩ := id C0
  have hown : s.vm.findClass RX0 = some m.cls := hown
  obtain ⟨hK, hNW, -, tw, hZ, hT⟩ := id hE
  have hl : lv_has ls 2 [(0, .ref (b 0)), (1, .int x1)] := hl
  have hS : va_S no s.heap s.heap [] := va_S.rf
  have hI_X0 := (show ∀ w ∈ wsX00, w ∈ wsX0_keySlot by decide +kernel)
  have gf28 := hts (.fieldLink RX0 28 "RowRanks$Bench" "keySlots" "[I") (by decide +kernel)
  unfold f_X0_keySlot at hf
  have go : ∀ (H : Heap) (locs : List Loc), va_P D vwCl [oX0 b b_keyCount b_sheetSet b_handSort b_handNumber, aI cI (b 6) 4 b_keySlots] H → va_S no s.heap H locs → W p l e { frames := 0, cells := 0, slots := 0, locals := 0 } s m args below meth c H locs 0 0 (MQ below (QrI zr) args s 0 0 no) (F0 m 0 ls []) := by
    intro H locs hP hS
    refine lv_iload_n hx hb dX0_keySlot_0 rfl (lv_at hl 1 rfl) ?_
    refine lv_if_lt (tgt := 18) hx hb dX0_keySlot_1 (by decide) (fun c1 => ?_) (fun c1 => ?_)
    · replace hf := oif c1 hf
      refine lv_iconst (v := 0) hx hb dX0_keySlot_18 (by decide) ?_
      have er := Option.some.inj hf
      exact rtI hx hb hr hS dX0_keySlot_19 er hlocks
    · replace hf := oel c1 hf
      refine lv_iload_n hx hb dX0_keySlot_4 rfl (lv_at hl 1 rfl) ?_
      refine lv_iconst (v := 4) hx hb dX0_keySlot_5 (by decide) ?_
      refine lv_icmp_ge (tgt := 18) hx hb dX0_keySlot_6 (by decide) (fun c2 => ?_) (fun c2 => ?_)
      · replace hf := oif c2 hf
        refine lv_iconst (v := 0) hx hb dX0_keySlot_18 (by decide) ?_
        have er := Option.some.inj hf
        exact rtI hx hb hr hS dX0_keySlot_19 er hlocks
      · replace hf := oel c2 hf
        refine lv_aload_n hx hb dX0_keySlot_9 rfl (lv_at hl 0 rfl) ?_
        refine va_get (D := D) (ci := 0) (v := .ref (b 6)) (C := RX0) (T := TX0) (N := 12) hx hb hts hI_X0 hown hK hP 0 rfl rfl 5 (by decide) gf28 (fun _ h9 => h9) rfl dX0_keySlot_10 ?_
        refine lv_iload_n hx hb dX0_keySlot_13 rfl (lv_at hl 1 rfl) ?_
        obtain ⟨h3, hf⟩ := ogd hf
        refine va_iald hx hb hK hP 1 0 rfl rfl (ib_in h3) dX0_keySlot_14 ?_
        refine lv_goto (tgt := 19) hx hb dX0_keySlot_15 (by decide) ?_
        have er := Option.some.inj hf
        exact rtI hx hb hr hS dX0_keySlot_19 er hlocks
  exact go s.heap [] hP hS
noncomputable def f_X0_keyBy (b_keyBys : Nat → Int32) (x1 : Int32) : Option (Int32) := if x1 < 0 then (some (0)) else (if 4 ≤ x1 then (some (0)) else (if ib x1 4 = true then (some ((b_keyBys x1.toNatClampNeg))) else none))
set_option maxHeartbeats 4000000 in
set_option maxRecDepth 100000 in
theorem c_X0_keyBy (l : Launch) (D : va_G) (cI cJ cZ cQ : ClassId) (bs sz : Nat) (b : Nat → Nat) (b_keyCount : Int32) (b_sheetSet : Int32) (b_handSort : Int32) (b_handNumber : Int64) (b_keyBys : Nat → Int32) (x1 : Int32) (zr : Int32) (hf : f_X0_keyBy b_keyBys x1 = some zr) : Met l yX0_keyBy wsX0_keyBy { frames := 0, cells := 0, slots := 0, locals := 0 } (va_Pc [.ref (b 0), .int x1] (Pr D cI cJ cZ cQ bs sz [oX0 b b_keyCount b_sheetSet b_handSort b_handNumber, aI cI (b 7) 4 b_keyBys])) (QrI zr) 0 0 no := by
  refine stM (cc := cX0_keyBy) (maxL := 2) (ret := (some .int)) (by decide +kernel) rfl (Nat.le_of_ble_eq_true rfl) ?_
  intro p e s m args below meth c C0 hr hlocks hname hsz hP hDb hE ls hl
  have hAb : ∀ q, no q → bs ≤ q := fun _ h => h.elim
  obtain ⟨hx, hb, hml, hown, hts⟩ := id C0
  have hown : s.vm.findClass RX0 = some m.cls := hown
  obtain ⟨hK, hNW, -, tw, hZ, hT⟩ := id hE
  have hl : lv_has ls 2 [(0, .ref (b 0)), (1, .int x1)] := hl
  have hS : va_S no s.heap s.heap [] := va_S.rf
  have hI_X0 := (show ∀ w ∈ wsX00, w ∈ wsX0_keyBy by decide +kernel)
  have gf31 := hts (.fieldLink RX0 31 "RowRanks$Bench" "keyBys" "[I") (by decide +kernel)
  unfold f_X0_keyBy at hf
  have go : ∀ (H : Heap) (locs : List Loc), va_P D vwCl [oX0 b b_keyCount b_sheetSet b_handSort b_handNumber, aI cI (b 7) 4 b_keyBys] H → va_S no s.heap H locs → W p l e { frames := 0, cells := 0, slots := 0, locals := 0 } s m args below meth c H locs 0 0 (MQ below (QrI zr) args s 0 0 no) (F0 m 0 ls []) := by
    intro H locs hP hS
    refine lv_iload_n hx hb dX0_keyBy_0 rfl (lv_at hl 1 rfl) ?_
    refine lv_if_lt (tgt := 18) hx hb dX0_keyBy_1 (by decide) (fun c1 => ?_) (fun c1 => ?_)
    · replace hf := oif c1 hf
      refine lv_iconst (v := 0) hx hb dX0_keyBy_18 (by decide) ?_
      have er := Option.some.inj hf
      exact rtI hx hb hr hS dX0_keyBy_19 er hlocks
    · replace hf := oel c1 hf
      refine lv_iload_n hx hb dX0_keyBy_4 rfl (lv_at hl 1 rfl) ?_
      refine lv_iconst (v := 4) hx hb dX0_keyBy_5 (by decide) ?_
      refine lv_icmp_ge (tgt := 18) hx hb dX0_keyBy_6 (by decide) (fun c2 => ?_) (fun c2 => ?_)
      · replace hf := oif c2 hf
        refine lv_iconst (v := 0) hx hb dX0_keyBy_18 (by decide) ?_
        have er := Option.some.inj hf
        exact rtI hx hb hr hS dX0_keyBy_19 er hlocks
      · replace hf := oel c2 hf
        refine lv_aload_n hx hb dX0_keyBy_9 rfl (lv_at hl 0 rfl) ?_
        refine va_get (D := D) (ci := 0) (v := .ref (b 7)) (C := RX0) (T := TX0) (N := 12) hx hb hts hI_X0 hown hK hP 0 rfl rfl 6 (by decide) gf31 (fun _ h9 => h9) rfl dX0_keyBy_10 ?_
        refine lv_iload_n hx hb dX0_keyBy_13 rfl (lv_at hl 1 rfl) ?_
        obtain ⟨h3, hf⟩ := ogd hf
        refine va_iald hx hb hK hP 1 0 rfl rfl (ib_in h3) dX0_keyBy_14 ?_
        refine lv_goto (tgt := 19) hx hb dX0_keyBy_15 (by decide) ?_
        have er := Option.some.inj hf
        exact rtI hx hb hr hS dX0_keyBy_19 er hlocks
  exact go s.heap [] hP hS
noncomputable def f_X0_keyWay (b_keyWays : Nat → Int32) (x1 : Int32) : Option (Int32) := if x1 < 0 then (some (0)) else (if 4 ≤ x1 then (some (0)) else (if ib x1 4 = true then (some ((b_keyWays x1.toNatClampNeg))) else none))
set_option maxHeartbeats 4000000 in
set_option maxRecDepth 100000 in
theorem c_X0_keyWay (l : Launch) (D : va_G) (cI cJ cZ cQ : ClassId) (bs sz : Nat) (b : Nat → Nat) (b_keyCount : Int32) (b_sheetSet : Int32) (b_handSort : Int32) (b_handNumber : Int64) (b_keyWays : Nat → Int32) (x1 : Int32) (zr : Int32) (hf : f_X0_keyWay b_keyWays x1 = some zr) : Met l yX0_keyWay wsX0_keyWay { frames := 0, cells := 0, slots := 0, locals := 0 } (va_Pc [.ref (b 0), .int x1] (Pr D cI cJ cZ cQ bs sz [oX0 b b_keyCount b_sheetSet b_handSort b_handNumber, aI cI (b 8) 4 b_keyWays])) (QrI zr) 0 0 no := by
  refine stM (cc := cX0_keyWay) (maxL := 2) (ret := (some .int)) (by decide +kernel) rfl (Nat.le_of_ble_eq_true rfl) ?_
  intro p e s m args below meth c C0 hr hlocks hname hsz hP hDb hE ls hl
  have hAb : ∀ q, no q → bs ≤ q := fun _ h => h.elim
  obtain ⟨hx, hb, hml, hown, hts⟩ := id C0
  have hown : s.vm.findClass RX0 = some m.cls := hown
  obtain ⟨hK, hNW, -, tw, hZ, hT⟩ := id hE
  have hl : lv_has ls 2 [(0, .ref (b 0)), (1, .int x1)] := hl
  have hS : va_S no s.heap s.heap [] := va_S.rf
  have hI_X0 := (show ∀ w ∈ wsX00, w ∈ wsX0_keyWay by decide +kernel)
  have gf34 := hts (.fieldLink RX0 34 "RowRanks$Bench" "keyWays" "[I") (by decide +kernel)
  unfold f_X0_keyWay at hf
  have go : ∀ (H : Heap) (locs : List Loc), va_P D vwCl [oX0 b b_keyCount b_sheetSet b_handSort b_handNumber, aI cI (b 8) 4 b_keyWays] H → va_S no s.heap H locs → W p l e { frames := 0, cells := 0, slots := 0, locals := 0 } s m args below meth c H locs 0 0 (MQ below (QrI zr) args s 0 0 no) (F0 m 0 ls []) := by
    intro H locs hP hS
    refine lv_iload_n hx hb dX0_keyWay_0 rfl (lv_at hl 1 rfl) ?_
    refine lv_if_lt (tgt := 18) hx hb dX0_keyWay_1 (by decide) (fun c1 => ?_) (fun c1 => ?_)
    · replace hf := oif c1 hf
      refine lv_iconst (v := 0) hx hb dX0_keyWay_18 (by decide) ?_
      have er := Option.some.inj hf
      exact rtI hx hb hr hS dX0_keyWay_19 er hlocks
    · replace hf := oel c1 hf
      refine lv_iload_n hx hb dX0_keyWay_4 rfl (lv_at hl 1 rfl) ?_
      refine lv_iconst (v := 4) hx hb dX0_keyWay_5 (by decide) ?_
      refine lv_icmp_ge (tgt := 18) hx hb dX0_keyWay_6 (by decide) (fun c2 => ?_) (fun c2 => ?_)
      · replace hf := oif c2 hf
        refine lv_iconst (v := 0) hx hb dX0_keyWay_18 (by decide) ?_
        have er := Option.some.inj hf
        exact rtI hx hb hr hS dX0_keyWay_19 er hlocks
      · replace hf := oel c2 hf
        refine lv_aload_n hx hb dX0_keyWay_9 rfl (lv_at hl 0 rfl) ?_
        refine va_get (D := D) (ci := 0) (v := .ref (b 8)) (C := RX0) (T := TX0) (N := 12) hx hb hts hI_X0 hown hK hP 0 rfl rfl 7 (by decide) gf34 (fun _ h9 => h9) rfl dX0_keyWay_10 ?_
        refine lv_iload_n hx hb dX0_keyWay_13 rfl (lv_at hl 1 rfl) ?_
        obtain ⟨h3, hf⟩ := ogd hf
        refine va_iald hx hb hK hP 1 0 rfl rfl (ib_in h3) dX0_keyWay_14 ?_
        refine lv_goto (tgt := 19) hx hb dX0_keyWay_15 (by decide) ?_
        have er := Option.some.inj hf
        exact rtI hx hb hr hS dX0_keyWay_19 er hlocks
  exact go s.heap [] hP hS
noncomputable def f_X0_addKey (b_keySlots : Nat → Int32) (b_keyBys : Nat → Int32) (b_keyWays : Nat → Int32) (b_keyCount : Int32) (x1 : Int32) (x2 : Int32) (x3 : Int32) : Option ((Nat → Int32) × (Nat → Int32) × (Nat → Int32) × Int32) := if b_keyCount < 0 then (some ((b_keySlots, b_keyBys, b_keyWays, b_keyCount))) else (if 4 ≤ b_keyCount then (some ((b_keySlots, b_keyBys, b_keyWays, b_keyCount))) else (if ib b_keyCount 4 = true then ((some (upd b_keySlots b_keyCount.toNatClampNeg x1 : Nat → Int32)).bind (fun h3a => if ib b_keyCount 4 = true then ((some (upd b_keyBys b_keyCount.toNatClampNeg x2 : Nat → Int32)).bind (fun h4a => if ib b_keyCount 4 = true then ((some (upd b_keyWays b_keyCount.toNatClampNeg x3 : Nat → Int32)).bind (fun h5a => some ((h3a, h4a, h5a, (b_keyCount + 1))))) else none)) else none)) else none))
set_option maxHeartbeats 4000000 in
set_option maxRecDepth 100000 in
theorem c_X0_addKey (l : Launch) (D : va_G) (cI cJ cZ cQ : ClassId) (bs sz : Nat) (b : Nat → Nat) (b_keyCount : Int32) (b_sheetSet : Int32) (b_handSort : Int32) (b_handNumber : Int64) (b_keySlots : Nat → Int32) (b_keyBys : Nat → Int32) (b_keyWays : Nat → Int32) (x1 : Int32) (x2 : Int32) (x3 : Int32) (zr : (Nat → Int32) × (Nat → Int32) × (Nat → Int32) × Int32) (hf : f_X0_addKey b_keySlots b_keyBys b_keyWays b_keyCount x1 x2 x3 = some zr) : Met l yX0_addKey wsX0_addKey { frames := 0, cells := 0, slots := 0, locals := 0 } (va_Pc [.ref (b 0), .int x1, .int x2, .int x3] (Pr D cI cJ cZ cQ bs sz [oX0 b b_keyCount b_sheetSet b_handSort b_handNumber, aI cI (b 6) 4 b_keySlots, aI cI (b 7) 4 b_keyBys, aI cI (b 8) 4 b_keyWays])) (QwV D zr (fun u => [oX0 b u.2.2.2 b_sheetSet b_handSort b_handNumber, aI cI (b 6) 4 u.1, aI cI (b 7) 4 u.2.1, aI cI (b 8) 4 u.2.2.1]) (va_A [oX0 b b_keyCount b_sheetSet b_handSort b_handNumber, aI cI (b 6) 4 b_keySlots, aI cI (b 7) 4 b_keyBys, aI cI (b 8) 4 b_keyWays] sz)) 0 0 (va_A [oX0 b b_keyCount b_sheetSet b_handSort b_handNumber, aI cI (b 6) 4 b_keySlots, aI cI (b 7) 4 b_keyBys, aI cI (b 8) 4 b_keyWays] sz) := by
  refine stW (cc := cX0_addKey) (maxL := 4) (ret := none) (Qf := fun A => (QwV D zr (fun u => [oX0 b u.2.2.2 b_sheetSet b_handSort b_handNumber, aI cI (b 6) 4 u.1, aI cI (b 7) 4 u.2.1, aI cI (b 8) 4 u.2.2.1]) A)) (by decide +kernel) rfl (Nat.le_of_ble_eq_true rfl) ?_
  intro p e s m args below meth c A C0 hr hlocks hname hsz hP hD hA hAb hE ls hl
  obtain ⟨hx, hb, hml, hown, hts⟩ := id C0
  have hown : s.vm.findClass RX0 = some m.cls := hown
  obtain ⟨hK, hNW, -, tw, hZ, hT⟩ := id hE
  have hl : lv_has ls 4 [(0, .ref (b 0)), (1, .int x1), (2, .int x2), (3, .int x3)] := hl
  have hS : va_S A s.heap s.heap [] := va_S.rf
  have hI_X0 := (show ∀ w ∈ wsX00, w ∈ wsX0_addKey by decide +kernel)
  have gf47 := hts (.fieldLink RX0 47 "RowRanks$Bench" "keyCount" "I") (by decide +kernel)
  have gf28 := hts (.fieldLink RX0 28 "RowRanks$Bench" "keySlots" "[I") (by decide +kernel)
  have gf31 := hts (.fieldLink RX0 31 "RowRanks$Bench" "keyBys" "[I") (by decide +kernel)
  have gf34 := hts (.fieldLink RX0 34 "RowRanks$Bench" "keyWays" "[I") (by decide +kernel)
  unfold f_X0_addKey at hf
  have go : ∀ (H : Heap) (locs : List Loc), va_P D vwCl [oX0 b b_keyCount b_sheetSet b_handSort b_handNumber, aI cI (b 6) 4 b_keySlots, aI cI (b 7) 4 b_keyBys, aI cI (b 8) 4 b_keyWays] H → va_S A s.heap H locs → W p l e { frames := 0, cells := 0, slots := 0, locals := 0 } s m args below meth c H locs 0 0 (MQ below (QwV D zr (fun u => [oX0 b u.2.2.2 b_sheetSet b_handSort b_handNumber, aI cI (b 6) 4 u.1, aI cI (b 7) 4 u.2.1, aI cI (b 8) 4 u.2.2.1]) A) args s 0 0 A) (F0 m 0 ls []) := by
    intro H locs hP hS
    refine lv_aload_n hx hb dX0_addKey_0 rfl (lv_at hl 0 rfl) ?_
    refine va_get (D := D) (ci := 0) (v := .int b_keyCount) (C := RX0) (T := TX0) (N := 12) hx hb hts hI_X0 hown hK hP 0 rfl rfl 8 (by decide) gf47 (fun _ h9 => h9) rfl dX0_addKey_1 ?_
    refine lv_if_lt (tgt := 55) hx hb dX0_addKey_4 (by decide) (fun c1 => ?_) (fun c1 => ?_)
    · replace hf := oif c1 hf
      have er := Option.some.inj hf
      exact rwV (wm := (fun u => [oX0 b u.2.2.2 b_sheetSet b_handSort b_handNumber, aI cI (b 6) 4 u.1, aI cI (b 7) 4 u.2.1, aI cI (b 8) 4 u.2.2.1])) hx hb hr hS dX0_addKey_55 hP er hlocks
    · replace hf := oel c1 hf
      refine lv_aload_n hx hb dX0_addKey_7 rfl (lv_at hl 0 rfl) ?_
      refine va_get (D := D) (ci := 0) (v := .int b_keyCount) (C := RX0) (T := TX0) (N := 12) hx hb hts hI_X0 hown hK hP 0 rfl rfl 8 (by decide) gf47 (fun _ h9 => h9) rfl dX0_addKey_8 ?_
      refine lv_iconst (v := 4) hx hb dX0_addKey_11 (by decide) ?_
      refine lv_icmp_ge (tgt := 55) hx hb dX0_addKey_12 (by decide) (fun c2 => ?_) (fun c2 => ?_)
      · replace hf := oif c2 hf
        have er := Option.some.inj hf
        exact rwV (wm := (fun u => [oX0 b u.2.2.2 b_sheetSet b_handSort b_handNumber, aI cI (b 6) 4 u.1, aI cI (b 7) 4 u.2.1, aI cI (b 8) 4 u.2.2.1])) hx hb hr hS dX0_addKey_55 hP er hlocks
      · replace hf := oel c2 hf
        refine lv_aload_n hx hb dX0_addKey_15 rfl (lv_at hl 0 rfl) ?_
        refine va_get (D := D) (ci := 0) (v := .ref (b 6)) (C := RX0) (T := TX0) (N := 12) hx hb hts hI_X0 hown hK hP 0 rfl rfl 5 (by decide) gf28 (fun _ h9 => h9) rfl dX0_addKey_16 ?_
        refine lv_aload_n hx hb dX0_addKey_19 rfl (lv_at hl 0 rfl) ?_
        refine va_get (D := D) (ci := 0) (v := .int b_keyCount) (C := RX0) (T := TX0) (N := 12) hx hb hts hI_X0 hown hK hP 0 rfl rfl 8 (by decide) gf47 (fun _ h9 => h9) rfl dX0_addKey_20 ?_
        refine lv_iload_n hx hb dX0_addKey_23 rfl (lv_at hl 1 rfl) ?_
        obtain ⟨h3, hf⟩ := ogd hf
        refine va_iast hx hb hK hP (hD.addr rfl) hS 1 0 rfl rfl (ib_in h3) dX0_addKey_24 (fun H locs hP _ hS => ?_)
        obtain ⟨h3a, eh3a⟩ : ∃ y : Nat → Int32, y = upd b_keySlots b_keyCount.toNatClampNeg x1 := ⟨_, rfl⟩
        replace hf := onm eh3a hf
        have hP : va_P D vwCl [oX0 b b_keyCount b_sheetSet b_handSort b_handNumber, aI cI (b 6) 4 h3a, aI cI (b 7) 4 b_keyBys, aI cI (b 8) 4 b_keyWays] H := by rw [eh3a]; exact hP
        refine lv_aload_n hx hb dX0_addKey_25 rfl (lv_at hl 0 rfl) ?_
        refine va_get (D := D) (ci := 0) (v := .ref (b 7)) (C := RX0) (T := TX0) (N := 12) hx hb hts hI_X0 hown hK hP 0 rfl rfl 6 (by decide) gf31 (fun _ h9 => h9) rfl dX0_addKey_26 ?_
        refine lv_aload_n hx hb dX0_addKey_29 rfl (lv_at hl 0 rfl) ?_
        refine va_get (D := D) (ci := 0) (v := .int b_keyCount) (C := RX0) (T := TX0) (N := 12) hx hb hts hI_X0 hown hK hP 0 rfl rfl 8 (by decide) gf47 (fun _ h9 => h9) rfl dX0_addKey_30 ?_
        refine lv_iload_n hx hb dX0_addKey_33 rfl (lv_at hl 2 rfl) ?_
        obtain ⟨h4, hf⟩ := ogd hf
        refine va_iast hx hb hK hP (hD.addr rfl) hS 2 0 rfl rfl (ib_in h4) dX0_addKey_34 (fun H locs hP _ hS => ?_)
        obtain ⟨h4a, eh4a⟩ : ∃ y : Nat → Int32, y = upd b_keyBys b_keyCount.toNatClampNeg x2 := ⟨_, rfl⟩
        replace hf := onm eh4a hf
        have hP : va_P D vwCl [oX0 b b_keyCount b_sheetSet b_handSort b_handNumber, aI cI (b 6) 4 h3a, aI cI (b 7) 4 h4a, aI cI (b 8) 4 b_keyWays] H := by rw [eh4a]; exact hP
        refine lv_aload_n hx hb dX0_addKey_35 rfl (lv_at hl 0 rfl) ?_
        refine va_get (D := D) (ci := 0) (v := .ref (b 8)) (C := RX0) (T := TX0) (N := 12) hx hb hts hI_X0 hown hK hP 0 rfl rfl 7 (by decide) gf34 (fun _ h9 => h9) rfl dX0_addKey_36 ?_
        refine lv_aload_n hx hb dX0_addKey_39 rfl (lv_at hl 0 rfl) ?_
        refine va_get (D := D) (ci := 0) (v := .int b_keyCount) (C := RX0) (T := TX0) (N := 12) hx hb hts hI_X0 hown hK hP 0 rfl rfl 8 (by decide) gf47 (fun _ h9 => h9) rfl dX0_addKey_40 ?_
        refine lv_iload_n hx hb dX0_addKey_43 rfl (lv_at hl 3 rfl) ?_
        obtain ⟨h5, hf⟩ := ogd hf
        refine va_iast hx hb hK hP (hD.addr rfl) hS 3 0 rfl rfl (ib_in h5) dX0_addKey_44 (fun H locs hP _ hS => ?_)
        obtain ⟨h5a, eh5a⟩ : ∃ y : Nat → Int32, y = upd b_keyWays b_keyCount.toNatClampNeg x3 := ⟨_, rfl⟩
        replace hf := onm eh5a hf
        have hP : va_P D vwCl [oX0 b b_keyCount b_sheetSet b_handSort b_handNumber, aI cI (b 6) 4 h3a, aI cI (b 7) 4 h4a, aI cI (b 8) 4 h5a] H := by rw [eh5a]; exact hP
        refine lv_aload_n hx hb dX0_addKey_45 rfl (lv_at hl 0 rfl) ?_
        refine lv_dup hx hb dX0_addKey_46 rfl ?_
        refine va_get (D := D) (ci := 0) (v := .int b_keyCount) (C := RX0) (T := TX0) (N := 12) hx hb hts hI_X0 hown hK hP 0 rfl rfl 8 (by decide) gf47 (fun _ h9 => h9) rfl dX0_addKey_47 ?_
        refine lv_iconst (v := 1) hx hb dX0_addKey_50 (by decide) ?_
        refine lv_iadd hx hb dX0_addKey_51 ?_
        refine va_put (D := D) (ci := 0) (v := .int (b_keyCount + 1)) (ty := .int) (C := RX0) (T := TX0) (N := 12) hx hb hts hI_X0 tyX0 tyX0_ok nmX0 hown hK hP (hD.addr rfl) hS 0 rfl rfl 8 (by decide) gf47 (fun _ h9 => h9) rfl (by decide +kernel) rfl rfl (Nat.le_of_ble_eq_true rfl) dX0_addKey_52 (fun H locs hP _ hS => ?_)
        have hP : va_P D vwCl [oX0 b (b_keyCount + 1) b_sheetSet b_handSort b_handNumber, aI cI (b 6) 4 h3a, aI cI (b 7) 4 h4a, aI cI (b 8) 4 h5a] H := hP
        have er := Option.some.inj hf
        exact rwV (wm := (fun u => [oX0 b u.2.2.2 b_sheetSet b_handSort b_handNumber, aI cI (b 6) 4 u.1, aI cI (b 7) 4 u.2.1, aI cI (b 8) 4 u.2.2.1])) hx hb hr hS dX0_addKey_55 hP er hlocks
  exact go s.heap [] hP hS
noncomputable def L_X0_keysCanRead_2 (b_kinds : Nat → Int32) (b_keySlots : Nat → Int32) (b_keyBys : Nat → Int32) (b_keyCount : Int32) : Nat → Int32 → Option ((Unit) ⊕ (Int32))
  | 0, _ => none
  | n + 1, v1 => if b_keyCount ≤ v1 then (some (.inl (()))) else ((f_X0_keySlot b_keySlots v1).bind (fun z2 => (f_X0_keyBy b_keyBys v1).bind (fun z3 => (f_X0_canRead b_kinds z2 z3).bind (fun z4 => if z4 = 0 then (some (.inr (0))) else ((some (v1 + 1 : Int32)).bind (fun y6 => L_X0_keysCanRead_2 b_kinds b_keySlots b_keyBys b_keyCount n y6))))))
noncomputable def f_X0_keysCanRead (b_kinds : Nat → Int32) (b_keySlots : Nat → Int32) (b_keyBys : Nat → Int32) (b_keyCount : Int32) : Option (Int32) := (L_X0_keysCanRead_2 b_kinds b_keySlots b_keyBys b_keyCount 4000 0).bind (fun z7 => Sum.elim (fun e8 => some (1)) (fun r9 => some (r9)) z7)
set_option maxHeartbeats 4000000 in
set_option maxRecDepth 100000 in
theorem c_X0_keysCanRead (l : Launch) (D : va_G) (cI cJ cZ cQ : ClassId) (bs sz : Nat) (b : Nat → Nat) (b_keyCount : Int32) (b_sheetSet : Int32) (b_handSort : Int32) (b_handNumber : Int64) (b_kinds : Nat → Int32) (b_keySlots : Nat → Int32) (b_keyBys : Nat → Int32) (zr : Int32) (hf : f_X0_keysCanRead b_kinds b_keySlots b_keyBys b_keyCount = some zr) : Met l yX0_keysCanRead wsX0_keysCanRead { frames := 2, cells := 0, slots := 0, locals := 44 } (va_Pc [.ref (b 0)] (Pr D cI cJ cZ cQ bs sz [oX0 b b_keyCount b_sheetSet b_handSort b_handNumber, aI cI (b 1) 6 b_kinds, aI cI (b 6) 4 b_keySlots, aI cI (b 7) 4 b_keyBys])) (QrZ zr) 0 0 no := by
  refine stM (cc := cX0_keysCanRead) (maxL := 2) (ret := (some .boolean)) (by decide +kernel) rfl (Nat.le_of_ble_eq_true rfl) ?_
  intro p e s m args below meth c C0 hr hlocks hname hsz hP hDb hE ls hl
  have hAb : ∀ q, no q → bs ≤ q := fun _ h => h.elim
  obtain ⟨hx, hb, hml, hown, hts⟩ := id C0
  have hown : s.vm.findClass RX0 = some m.cls := hown
  obtain ⟨hK, hNW, -, tw, hZ, hT⟩ := id hE
  have hl : lv_has ls 2 [(0, .ref (b 0))] := hl
  have hS : va_S no s.heap s.heap [] := va_S.rf
  have hI_X0 := (show ∀ w ∈ wsX00, w ∈ wsX0_keysCanRead by decide +kernel)
  have gf47 := hts (.fieldLink RX0 47 "RowRanks$Bench" "keyCount" "I") (by decide +kernel)
  have W2 : ∀ (n : Nat) (v1 : Int32) (H : Heap) (locs : List Loc) (ls : Array Slot) (z : (Unit) ⊕ (Int32)), va_P D vwCl [oX0 b b_keyCount b_sheetSet b_handSort b_handNumber, aI cI (b 1) 6 b_kinds, aI cI (b 6) 4 b_keySlots, aI cI (b 7) 4 b_keyBys] H → va_S no s.heap H locs → lv_has ls 2 [(0, .ref (b 0)), (1, .int v1)] → L_X0_keysCanRead_2 b_kinds b_keySlots b_keyBys b_keyCount n v1 = some z → (∀ e9, z = Sum.inl e9 → ∀ (H : Heap) (locs : List Loc) (ls : Array Slot), va_P D vwCl [oX0 b b_keyCount b_sheetSet b_handSort b_handNumber, aI cI (b 1) 6 b_kinds, aI cI (b 6) 4 b_keySlots, aI cI (b 7) 4 b_keyBys] H → va_S no s.heap H locs → lv_has ls 2 [] → W p l e { frames := 2, cells := 0, slots := 0, locals := 44 } s m args below meth c H locs 0 0 (MQ below (QrZ zr) args s 0 0 no) (F0 m 35 ls [])) → (∀ r9, z = Sum.inr r9 → r9 = zr) → W p l e { frames := 2, cells := 0, slots := 0, locals := 44 } s m args below meth c H locs 0 0 (MQ below (QrZ zr) args s 0 0 no) (F0 m 2 ls []) := by
    intro n
    induction n with
    | zero =>
      intro v1 H locs ls z hP hS hl hf
      exact absurd (show (none : Option ((Unit) ⊕ (Int32))) = some z from hf) (fun h => by cases h)
    | succ n ih =>
      intro v1 H locs ls z hP hS hl hf K K2
      rw [L_X0_keysCanRead_2] at hf
      refine lv_iload_n hx hb dX0_keysCanRead_2 rfl (lv_at hl 1 rfl) ?_
      refine lv_aload_n hx hb dX0_keysCanRead_3 rfl (lv_at hl 0 rfl) ?_
      refine va_get (D := D) (ci := 0) (v := .int b_keyCount) (C := RX0) (T := TX0) (N := 12) hx hb hts hI_X0 hown hK hP 0 rfl rfl 8 (by decide) gf47 (fun _ h9 => h9) rfl dX0_keysCanRead_4 ?_
      refine lv_icmp_ge (tgt := 35) hx hb dX0_keysCanRead_7 (by decide) (fun c1 => ?_) (fun c1 => ?_)
      · replace hf := oif c1 hf
        exact K _ (Option.some.inj hf).symm H locs ls hP hS (lv_sub hl [] rfl)
      · replace hf := oel c1 hf
        refine lv_aload_n hx hb dX0_keysCanRead_10 rfl (lv_at hl 0 rfl) ?_
        refine lv_aload_n hx hb dX0_keysCanRead_11 rfl (lv_at hl 0 rfl) ?_
        refine lv_iload_n hx hb dX0_keysCanRead_12 rfl (lv_at hl 1 rfl) ?_
        obtain ⟨z2, hz2, hf⟩ := obd hf
        refine kI (runV (As := [.int v1]) (rest := [.ref (b 0)]) C0 hE hAb hP (hDb.addr rfl) hS [0, 2] (wc := [oX0 b b_keyCount b_sheetSet b_handSort b_handNumber, aI cI (b 6) 4 b_keySlots]) (by decide) rfl 0 rfl rfl (c_X0_keySlot l D cI cJ cZ cQ bs H.size b b_keyCount b_sheetSet b_handSort b_handNumber b_keySlots v1 z2 hz2) (cwV 1 hts gX0_keysCanRead_X0_keySlot rfl rfl rfl (by decide +kernel) ⟨Nat.le_of_ble_eq_true rfl, Nat.le_of_ble_eq_true rfl⟩) rfl hl.1 rfl (Nat.le_of_ble_eq_true rfl) dX0_keysCanRead_13 ⟨Nat.le_of_ble_eq_true rfl, Nat.le_of_ble_eq_true rfl⟩) hS hP (fun H locs hP hS => ?_)
        refine lv_aload_n hx hb dX0_keysCanRead_16 rfl (lv_at hl 0 rfl) ?_
        refine lv_iload_n hx hb dX0_keysCanRead_17 rfl (lv_at hl 1 rfl) ?_
        obtain ⟨z3, hz3, hf⟩ := obd hf
        refine kI (runV (As := [.int v1]) (rest := [.int z2, .ref (b 0)]) C0 hE hAb hP (hDb.addr rfl) hS [0, 3] (wc := [oX0 b b_keyCount b_sheetSet b_handSort b_handNumber, aI cI (b 7) 4 b_keyBys]) (by decide) rfl 0 rfl rfl (c_X0_keyBy l D cI cJ cZ cQ bs H.size b b_keyCount b_sheetSet b_handSort b_handNumber b_keyBys v1 z3 hz3) (cwV 1 hts gX0_keysCanRead_X0_keyBy rfl rfl rfl (by decide +kernel) ⟨Nat.le_of_ble_eq_true rfl, Nat.le_of_ble_eq_true rfl⟩) rfl hl.1 rfl (Nat.le_of_ble_eq_true rfl) dX0_keysCanRead_18 ⟨Nat.le_of_ble_eq_true rfl, Nat.le_of_ble_eq_true rfl⟩) hS hP (fun H locs hP hS => ?_)
        obtain ⟨z4, hz4, hf⟩ := obd hf
        refine kZ (runV (As := [.int z2, .int z3]) (rest := []) C0 hE hAb hP (hDb.addr rfl) hS [0, 1] (wc := [oX0 b b_keyCount b_sheetSet b_handSort b_handNumber, aI cI (b 1) 6 b_kinds]) (by decide) rfl 0 rfl rfl (c_X0_canRead l D cI cJ cZ cQ bs H.size b b_keyCount b_sheetSet b_handSort b_handNumber b_kinds z2 z3 z4 hz4) (cwV 2 hts gX0_keysCanRead_X0_canRead rfl rfl rfl (by decide +kernel) ⟨Nat.le_of_ble_eq_true rfl, Nat.le_of_ble_eq_true rfl⟩) rfl hl.1 rfl (Nat.le_of_ble_eq_true rfl) dX0_keysCanRead_21 ⟨Nat.le_of_ble_eq_true rfl, Nat.le_of_ble_eq_true rfl⟩) hS hP (fun bz4 H locs hP hS => ?_)
        refine lv_if_ne (tgt := 29) hx hb dX0_keysCanRead_24 (by decide) (fun c5 => ?_) (fun c5 => ?_)
        · replace hf := oel c5 hf
          obtain ⟨y6, ey6⟩ : ∃ y : Int32, y = v1 + 1 := ⟨_, rfl⟩
          replace hf := onm ey6 hf
          refine lv_iinc (v := y6) (lv' := [(1, .int y6), (0, .ref (b 0))]) hx hb dX0_keysCanRead_29 hl (k := 1) rfl (by rw [ey6]; rfl) (by decide) rfl (fun ls hl => ?_)
          refine lv_goto (tgt := 2) hx hb dX0_keysCanRead_32 (by decide) ?_
          exact ih y6 H locs ls z hP hS (lv_sub hl [1, 0] rfl) hf K K2
        · replace hf := oif c5 hf
          refine lv_iconst (v := 0) hx hb dX0_keysCanRead_27 (by decide) ?_
          have er := K2 _ (Option.some.inj hf).symm
          exact rtZ hx hb hr hS dX0_keysCanRead_28 er (by decide) hlocks
  unfold f_X0_keysCanRead at hf
  have go : ∀ (H : Heap) (locs : List Loc), va_P D vwCl [oX0 b b_keyCount b_sheetSet b_handSort b_handNumber, aI cI (b 1) 6 b_kinds, aI cI (b 6) 4 b_keySlots, aI cI (b 7) 4 b_keyBys] H → va_S no s.heap H locs → W p l e { frames := 2, cells := 0, slots := 0, locals := 44 } s m args below meth c H locs 0 0 (MQ below (QrZ zr) args s 0 0 no) (F0 m 0 ls []) := by
    intro H locs hP hS
    refine lv_iconst (v := 0) hx hb dX0_keysCanRead_0 (by decide) ?_
    refine lv_istore_n (lv' := [(1, .int 0), (0, .ref (b 0))]) hx hb dX0_keysCanRead_1 rfl hl (by decide) rfl (fun ls hl => ?_)
    obtain ⟨z7, hz7, hf⟩ := obd hf
    refine W2 4000 0 H locs ls z7 hP hS (lv_sub hl [1, 0] rfl) hz7 (fun e8 ee H locs ls hP hS hl => ?_) (fun r9 er => by subst er; exact Option.some.inj hf)
    subst ee
    replace hf := osl hf
    refine lv_iconst (v := 1) hx hb dX0_keysCanRead_35 (by decide) ?_
    have er := Option.some.inj hf
    exact rtZ hx hb hr hS dX0_keysCanRead_36 er (by decide) hlocks
  exact go s.heap [] hP hS
noncomputable def L_X0_length_7 (b_keySlots : Nat → Int32) (b_keyCount : Int32) : Nat → Int32 → Int32 → Option (Int32)
  | 0, _, _ => none
  | n + 1, v1, v2 => if b_keyCount ≤ v2 then (some (v1)) else ((f_X0_keySlot b_keySlots v2).bind (fun z2 => (some ((v1 ||| (1 <<< (z2 &&& 31))) : Int32)).bind (fun y3 => (some (v2 + 1 : Int32)).bind (fun y4 => L_X0_length_7 b_keySlots b_keyCount n y3 y4))))
noncomputable def L_X0_length_35 (b_kinds : Nat → Int32) (b_sizes : Nat → Int32) (v1 : Int32) : Nat → Int32 → Int32 → Option ((Int32) ⊕ (Int32))
  | 0, _, _ => none
  | n + 1, v2, v3 => if 6 ≤ v3 then (some (.inl (v2))) else (if ((v1 >>> (v3 &&& 31)) &&& 1) = 1 then ((f_X0_holdsArray b_kinds v3).bind (fun z9 => if z9 = 0 then (some (.inr ((-1)))) else (if v2 = (-1) then ((f_X0_sizeOf b_sizes v3).bind (fun z12 => (some (v3 + 1 : Int32)).bind (fun y13 => L_X0_length_35 b_kinds b_sizes v1 n z12 y13))) else ((f_X0_sizeOf b_sizes v3).bind (fun z14 => if z14 = v2 then ((f_X0_sizeOf b_sizes v3).bind (fun z16 => (some (v3 + 1 : Int32)).bind (fun y17 => L_X0_length_35 b_kinds b_sizes v1 n z16 y17))) else (some (.inr ((-1))))))))) else ((some (v3 + 1 : Int32)).bind (fun y8 => L_X0_length_35 b_kinds b_sizes v1 n v2 y8)))
noncomputable def f_X0_length (b_kinds : Nat → Int32) (b_sizes : Nat → Int32) (b_keySlots : Nat → Int32) (b_keyBys : Nat → Int32) (b_keyCount : Int32) (b_sheetSet : Int32) : Option (Int32) := (L_X0_length_7 b_keySlots b_keyCount 4000 b_sheetSet 0).bind (fun z5 => (L_X0_length_35 b_kinds b_sizes z5 4000 (-1) 0).bind (fun z18 => Sum.elim (fun e19 => if e19 ≤ 0 then (some (e19)) else ((f_X0_keysCanRead b_kinds b_keySlots b_keyBys b_keyCount).bind (fun z21 => if z21 = 0 then (some ((-1))) else (some (e19))))) (fun r9 => some (r9)) z18))
set_option maxHeartbeats 4000000 in
set_option maxRecDepth 100000 in
theorem c_X0_length (l : Launch) (D : va_G) (cI cJ cZ cQ : ClassId) (bs sz : Nat) (b : Nat → Nat) (b_keyCount : Int32) (b_sheetSet : Int32) (b_handSort : Int32) (b_handNumber : Int64) (b_kinds : Nat → Int32) (b_sizes : Nat → Int32) (b_keySlots : Nat → Int32) (b_keyBys : Nat → Int32) (zr : Int32) (hf : f_X0_length b_kinds b_sizes b_keySlots b_keyBys b_keyCount b_sheetSet = some zr) : Met l yX0_length wsX0_length { frames := 3, cells := 0, slots := 0, locals := 65 } (va_Pc [.ref (b 0)] (Pr D cI cJ cZ cQ bs sz [oX0 b b_keyCount b_sheetSet b_handSort b_handNumber, aI cI (b 1) 6 b_kinds, aI cI (b 2) 6 b_sizes, aI cI (b 6) 4 b_keySlots, aI cI (b 7) 4 b_keyBys])) (QrI zr) 0 0 no := by
  refine stM (cc := cX0_length) (maxL := 4) (ret := (some .int)) (by decide +kernel) rfl (Nat.le_of_ble_eq_true rfl) ?_
  intro p e s m args below meth c C0 hr hlocks hname hsz hP hDb hE ls hl
  have hAb : ∀ q, no q → bs ≤ q := fun _ h => h.elim
  obtain ⟨hx, hb, hml, hown, hts⟩ := id C0
  have hown : s.vm.findClass RX0 = some m.cls := hown
  obtain ⟨hK, hNW, -, tw, hZ, hT⟩ := id hE
  have hl : lv_has ls 4 [(0, .ref (b 0))] := hl
  have hS : va_S no s.heap s.heap [] := va_S.rf
  have hI_X0 := (show ∀ w ∈ wsX00, w ∈ wsX0_length by decide +kernel)
  have gf50 := hts (.fieldLink RX0 50 "RowRanks$Bench" "sheetSet" "I") (by decide +kernel)
  have gf47 := hts (.fieldLink RX0 47 "RowRanks$Bench" "keyCount" "I") (by decide +kernel)
  have W7 : ∀ (n : Nat) (v1 : Int32) (v2 : Int32) (H : Heap) (locs : List Loc) (ls : Array Slot) (z : Int32), va_P D vwCl [oX0 b b_keyCount b_sheetSet b_handSort b_handNumber, aI cI (b 1) 6 b_kinds, aI cI (b 2) 6 b_sizes, aI cI (b 6) 4 b_keySlots, aI cI (b 7) 4 b_keyBys] H → va_S no s.heap H locs → lv_has ls 4 [(0, .ref (b 0)), (1, .int v1), (2, .int v2)] → L_X0_length_7 b_keySlots b_keyCount n v1 v2 = some z → (∀ (H : Heap) (locs : List Loc) (ls : Array Slot), va_P D vwCl [oX0 b b_keyCount b_sheetSet b_handSort b_handNumber, aI cI (b 1) 6 b_kinds, aI cI (b 2) 6 b_sizes, aI cI (b 6) 4 b_keySlots, aI cI (b 7) 4 b_keyBys] H → va_S no s.heap H locs → lv_has ls 4 [(0, .ref (b 0)), (1, .int z)] → W p l e { frames := 3, cells := 0, slots := 0, locals := 65 } s m args below meth c H locs 0 0 (MQ below (QrI zr) args s 0 0 no) (F0 m 31 ls [])) → W p l e { frames := 3, cells := 0, slots := 0, locals := 65 } s m args below meth c H locs 0 0 (MQ below (QrI zr) args s 0 0 no) (F0 m 7 ls []) := by
    intro n
    induction n with
    | zero =>
      intro v1 v2 H locs ls z hP hS hl hf
      exact absurd (show (none : Option (Int32)) = some z from hf) (fun h => by cases h)
    | succ n ih =>
      intro v1 v2 H locs ls z hP hS hl hf K
      rw [L_X0_length_7] at hf
      refine lv_iload_n hx hb dX0_length_7 rfl (lv_at hl 2 rfl) ?_
      refine lv_aload_n hx hb dX0_length_8 rfl (lv_at hl 0 rfl) ?_
      refine va_get (D := D) (ci := 0) (v := .int b_keyCount) (C := RX0) (T := TX0) (N := 12) hx hb hts hI_X0 hown hK hP 0 rfl rfl 8 (by decide) gf47 (fun _ h9 => h9) rfl dX0_length_9 ?_
      refine lv_icmp_ge (tgt := 31) hx hb dX0_length_12 (by decide) (fun c1 => ?_) (fun c1 => ?_)
      · replace hf := oif c1 hf
        have hf := Option.some.inj hf
        subst hf
        exact K H locs ls hP hS (lv_sub hl [0, 1] rfl)
      · replace hf := oel c1 hf
        refine lv_iload_n hx hb dX0_length_15 rfl (lv_at hl 1 rfl) ?_
        refine lv_iconst (v := 1) hx hb dX0_length_16 (by decide) ?_
        refine lv_aload_n hx hb dX0_length_17 rfl (lv_at hl 0 rfl) ?_
        refine lv_iload_n hx hb dX0_length_18 rfl (lv_at hl 2 rfl) ?_
        obtain ⟨z2, hz2, hf⟩ := obd hf
        refine kI (runV (As := [.int v2]) (rest := [.int 1, .int v1]) C0 hE hAb hP (hDb.addr rfl) hS [0, 3] (wc := [oX0 b b_keyCount b_sheetSet b_handSort b_handNumber, aI cI (b 6) 4 b_keySlots]) (by decide) rfl 0 rfl rfl (c_X0_keySlot l D cI cJ cZ cQ bs H.size b b_keyCount b_sheetSet b_handSort b_handNumber b_keySlots v2 z2 hz2) (cwV 1 hts gX0_length_X0_keySlot rfl rfl rfl (by decide +kernel) ⟨Nat.le_of_ble_eq_true rfl, Nat.le_of_ble_eq_true rfl⟩) rfl hl.1 rfl (Nat.le_of_ble_eq_true rfl) dX0_length_19 ⟨Nat.le_of_ble_eq_true rfl, Nat.le_of_ble_eq_true rfl⟩) hS hP (fun H locs hP hS => ?_)
        refine lv_ishl hx hb dX0_length_22 ?_
        refine lv_ior hx hb dX0_length_23 ?_
        refine lv_topi (fun y3 ey3 => ?_)
        replace hf := onm ey3 hf
        refine lv_istore_n (lv' := [(1, .int y3), (0, .ref (b 0)), (2, .int v2)]) hx hb dX0_length_24 rfl hl (by decide) rfl (fun ls hl => ?_)
        obtain ⟨y4, ey4⟩ : ∃ y : Int32, y = v2 + 1 := ⟨_, rfl⟩
        replace hf := onm ey4 hf
        refine lv_iinc (v := y4) (lv' := [(2, .int y4), (1, .int y3), (0, .ref (b 0))]) hx hb dX0_length_25 hl (k := 2) rfl (by rw [ey4]; rfl) (by decide) rfl (fun ls hl => ?_)
        refine lv_goto (tgt := 7) hx hb dX0_length_28 (by decide) ?_
        exact ih y3 y4 H locs ls z hP hS (lv_sub hl [2, 1, 0] rfl) hf K
  have W35 : ∀ (n : Nat) (v1 : Int32) (v2 : Int32) (v3 : Int32) (H : Heap) (locs : List Loc) (ls : Array Slot) (z : (Int32) ⊕ (Int32)), va_P D vwCl [oX0 b b_keyCount b_sheetSet b_handSort b_handNumber, aI cI (b 1) 6 b_kinds, aI cI (b 2) 6 b_sizes, aI cI (b 6) 4 b_keySlots, aI cI (b 7) 4 b_keyBys] H → va_S no s.heap H locs → lv_has ls 4 [(0, .ref (b 0)), (1, .int v1), (2, .int v2), (3, .int v3)] → L_X0_length_35 b_kinds b_sizes v1 n v2 v3 = some z → (∀ e9, z = Sum.inl e9 → ∀ (H : Heap) (locs : List Loc) (ls : Array Slot), va_P D vwCl [oX0 b b_keyCount b_sheetSet b_handSort b_handNumber, aI cI (b 1) 6 b_kinds, aI cI (b 2) 6 b_sizes, aI cI (b 6) 4 b_keySlots, aI cI (b 7) 4 b_keyBys] H → va_S no s.heap H locs → lv_has ls 4 [(0, .ref (b 0)), (2, .int e9)] → W p l e { frames := 3, cells := 0, slots := 0, locals := 65 } s m args below meth c H locs 0 0 (MQ below (QrI zr) args s 0 0 no) (F0 m 86 ls [])) → (∀ r9, z = Sum.inr r9 → r9 = zr) → W p l e { frames := 3, cells := 0, slots := 0, locals := 65 } s m args below meth c H locs 0 0 (MQ below (QrI zr) args s 0 0 no) (F0 m 35 ls []) := by
    intro n
    induction n with
    | zero =>
      intro v1 v2 v3 H locs ls z hP hS hl hf
      exact absurd (show (none : Option ((Int32) ⊕ (Int32))) = some z from hf) (fun h => by cases h)
    | succ n ih =>
      intro v1 v2 v3 H locs ls z hP hS hl hf K K2
      rw [L_X0_length_35] at hf
      refine lv_iload_n hx hb dX0_length_35 rfl (lv_at hl 3 rfl) ?_
      refine lv_bipush (v := 6) hx hb dX0_length_36 (by decide) ?_
      refine lv_icmp_ge (tgt := 86) hx hb dX0_length_38 (by decide) (fun c6 => ?_) (fun c6 => ?_)
      · replace hf := oif c6 hf
        exact K _ (Option.some.inj hf).symm H locs ls hP hS (lv_sub hl [0, 2] rfl)
      · replace hf := oel c6 hf
        refine lv_iload_n hx hb dX0_length_41 rfl (lv_at hl 1 rfl) ?_
        refine lv_iload_n hx hb dX0_length_42 rfl (lv_at hl 3 rfl) ?_
        refine lv_ishr hx hb dX0_length_43 ?_
        refine lv_iconst (v := 1) hx hb dX0_length_44 (by decide) ?_
        refine lv_iand hx hb dX0_length_45 ?_
        refine lv_iconst (v := 1) hx hb dX0_length_46 (by decide) ?_
        refine lv_icmp_ne (tgt := 80) hx hb dX0_length_47 (by decide) (fun c7 => ?_) (fun c7 => ?_)
        · replace hf := oel c7 hf
          obtain ⟨y8, ey8⟩ : ∃ y : Int32, y = v3 + 1 := ⟨_, rfl⟩
          replace hf := onm ey8 hf
          refine lv_iinc (v := y8) (lv' := [(3, .int y8), (0, .ref (b 0)), (1, .int v1), (2, .int v2)]) hx hb dX0_length_80 hl (k := 3) rfl (by rw [ey8]; rfl) (by decide) rfl (fun ls hl => ?_)
          refine lv_goto (tgt := 35) hx hb dX0_length_83 (by decide) ?_
          exact ih v1 v2 y8 H locs ls z hP hS (lv_sub hl [1, 2, 3, 0] rfl) hf K K2
        · replace hf := oif c7 hf
          refine lv_aload_n hx hb dX0_length_50 rfl (lv_at hl 0 rfl) ?_
          refine lv_iload_n hx hb dX0_length_51 rfl (lv_at hl 3 rfl) ?_
          obtain ⟨z9, hz9, hf⟩ := obd hf
          refine kZ (runV (As := [.int v3]) (rest := []) C0 hE hAb hP (hDb.addr rfl) hS [0, 1] (wc := [oX0 b b_keyCount b_sheetSet b_handSort b_handNumber, aI cI (b 1) 6 b_kinds]) (by decide) rfl 0 rfl rfl (c_X0_holdsArray l D cI cJ cZ cQ bs H.size b b_keyCount b_sheetSet b_handSort b_handNumber b_kinds v3 z9 hz9) (cwV 1 hts gX0_length_X0_holdsArray rfl rfl rfl (by decide +kernel) ⟨Nat.le_of_ble_eq_true rfl, Nat.le_of_ble_eq_true rfl⟩) rfl hl.1 rfl (Nat.le_of_ble_eq_true rfl) dX0_length_52 ⟨Nat.le_of_ble_eq_true rfl, Nat.le_of_ble_eq_true rfl⟩) hS hP (fun bz9 H locs hP hS => ?_)
          refine lv_if_eq (tgt := 72) hx hb dX0_length_55 (by decide) (fun c10 => ?_) (fun c10 => ?_)
          · replace hf := oif c10 hf
            refine lv_iconst (v := (-1)) hx hb dX0_length_72 (by decide) ?_
            have er := K2 _ (Option.some.inj hf).symm
            exact rtI hx hb hr hS dX0_length_73 er hlocks
          · replace hf := oel c10 hf
            refine lv_iload_n hx hb dX0_length_58 rfl (lv_at hl 2 rfl) ?_
            refine lv_iconst (v := (-1)) hx hb dX0_length_59 (by decide) ?_
            refine lv_icmp_eq (tgt := 74) hx hb dX0_length_60 (by decide) (fun c11 => ?_) (fun c11 => ?_)
            · replace hf := oif c11 hf
              refine lv_aload_n hx hb dX0_length_74 rfl (lv_at hl 0 rfl) ?_
              refine lv_iload_n hx hb dX0_length_75 rfl (lv_at hl 3 rfl) ?_
              obtain ⟨z12, hz12, hf⟩ := obd hf
              refine kI (runV (As := [.int v3]) (rest := []) C0 hE hAb hP (hDb.addr rfl) hS [0, 2] (wc := [oX0 b b_keyCount b_sheetSet b_handSort b_handNumber, aI cI (b 2) 6 b_sizes]) (by decide) rfl 0 rfl rfl (c_X0_sizeOf l D cI cJ cZ cQ bs H.size b b_keyCount b_sheetSet b_handSort b_handNumber b_sizes v3 z12 hz12) (cwV 1 hts gX0_length_X0_sizeOf rfl rfl rfl (by decide +kernel) ⟨Nat.le_of_ble_eq_true rfl, Nat.le_of_ble_eq_true rfl⟩) rfl hl.1 rfl (Nat.le_of_ble_eq_true rfl) dX0_length_76 ⟨Nat.le_of_ble_eq_true rfl, Nat.le_of_ble_eq_true rfl⟩) hS hP (fun H locs hP hS => ?_)
              refine lv_istore_n (lv' := [(2, .int z12), (0, .ref (b 0)), (1, .int v1), (3, .int v3)]) hx hb dX0_length_79 rfl hl (by decide) rfl (fun ls hl => ?_)
              obtain ⟨y13, ey13⟩ : ∃ y : Int32, y = v3 + 1 := ⟨_, rfl⟩
              replace hf := onm ey13 hf
              refine lv_iinc (v := y13) (lv' := [(3, .int y13), (2, .int z12), (0, .ref (b 0)), (1, .int v1)]) hx hb dX0_length_80 hl (k := 3) rfl (by rw [ey13]; rfl) (by decide) rfl (fun ls hl => ?_)
              refine lv_goto (tgt := 35) hx hb dX0_length_83 (by decide) ?_
              exact ih v1 z12 y13 H locs ls z hP hS (lv_sub hl [2, 3, 1, 0] rfl) hf K K2
            · replace hf := oel c11 hf
              refine lv_aload_n hx hb dX0_length_63 rfl (lv_at hl 0 rfl) ?_
              refine lv_iload_n hx hb dX0_length_64 rfl (lv_at hl 3 rfl) ?_
              obtain ⟨z14, hz14, hf⟩ := obd hf
              refine kI (runV (As := [.int v3]) (rest := []) C0 hE hAb hP (hDb.addr rfl) hS [0, 2] (wc := [oX0 b b_keyCount b_sheetSet b_handSort b_handNumber, aI cI (b 2) 6 b_sizes]) (by decide) rfl 0 rfl rfl (c_X0_sizeOf l D cI cJ cZ cQ bs H.size b b_keyCount b_sheetSet b_handSort b_handNumber b_sizes v3 z14 hz14) (cwV 1 hts gX0_length_X0_sizeOf rfl rfl rfl (by decide +kernel) ⟨Nat.le_of_ble_eq_true rfl, Nat.le_of_ble_eq_true rfl⟩) rfl hl.1 rfl (Nat.le_of_ble_eq_true rfl) dX0_length_65 ⟨Nat.le_of_ble_eq_true rfl, Nat.le_of_ble_eq_true rfl⟩) hS hP (fun H locs hP hS => ?_)
              refine lv_iload_n hx hb dX0_length_68 rfl (lv_at hl 2 rfl) ?_
              refine lv_icmp_eq (tgt := 74) hx hb dX0_length_69 (by decide) (fun c15 => ?_) (fun c15 => ?_)
              · replace hf := oif c15 hf
                refine lv_aload_n hx hb dX0_length_74 rfl (lv_at hl 0 rfl) ?_
                refine lv_iload_n hx hb dX0_length_75 rfl (lv_at hl 3 rfl) ?_
                obtain ⟨z16, hz16, hf⟩ := obd hf
                refine kI (runV (As := [.int v3]) (rest := []) C0 hE hAb hP (hDb.addr rfl) hS [0, 2] (wc := [oX0 b b_keyCount b_sheetSet b_handSort b_handNumber, aI cI (b 2) 6 b_sizes]) (by decide) rfl 0 rfl rfl (c_X0_sizeOf l D cI cJ cZ cQ bs H.size b b_keyCount b_sheetSet b_handSort b_handNumber b_sizes v3 z16 hz16) (cwV 1 hts gX0_length_X0_sizeOf rfl rfl rfl (by decide +kernel) ⟨Nat.le_of_ble_eq_true rfl, Nat.le_of_ble_eq_true rfl⟩) rfl hl.1 rfl (Nat.le_of_ble_eq_true rfl) dX0_length_76 ⟨Nat.le_of_ble_eq_true rfl, Nat.le_of_ble_eq_true rfl⟩) hS hP (fun H locs hP hS => ?_)
                refine lv_istore_n (lv' := [(2, .int z16), (0, .ref (b 0)), (1, .int v1), (3, .int v3)]) hx hb dX0_length_79 rfl hl (by decide) rfl (fun ls hl => ?_)
                obtain ⟨y17, ey17⟩ : ∃ y : Int32, y = v3 + 1 := ⟨_, rfl⟩
                replace hf := onm ey17 hf
                refine lv_iinc (v := y17) (lv' := [(3, .int y17), (2, .int z16), (0, .ref (b 0)), (1, .int v1)]) hx hb dX0_length_80 hl (k := 3) rfl (by rw [ey17]; rfl) (by decide) rfl (fun ls hl => ?_)
                refine lv_goto (tgt := 35) hx hb dX0_length_83 (by decide) ?_
                exact ih v1 z16 y17 H locs ls z hP hS (lv_sub hl [2, 3, 1, 0] rfl) hf K K2
              · replace hf := oel c15 hf
                refine lv_iconst (v := (-1)) hx hb dX0_length_72 (by decide) ?_
                have er := K2 _ (Option.some.inj hf).symm
                exact rtI hx hb hr hS dX0_length_73 er hlocks
  unfold f_X0_length at hf
  have go : ∀ (H : Heap) (locs : List Loc), va_P D vwCl [oX0 b b_keyCount b_sheetSet b_handSort b_handNumber, aI cI (b 1) 6 b_kinds, aI cI (b 2) 6 b_sizes, aI cI (b 6) 4 b_keySlots, aI cI (b 7) 4 b_keyBys] H → va_S no s.heap H locs → W p l e { frames := 3, cells := 0, slots := 0, locals := 65 } s m args below meth c H locs 0 0 (MQ below (QrI zr) args s 0 0 no) (F0 m 0 ls []) := by
    intro H locs hP hS
    refine lv_aload_n hx hb dX0_length_0 rfl (lv_at hl 0 rfl) ?_
    refine va_get (D := D) (ci := 0) (v := .int b_sheetSet) (C := RX0) (T := TX0) (N := 12) hx hb hts hI_X0 hown hK hP 0 rfl rfl 9 (by decide) gf50 (fun _ h9 => h9) rfl dX0_length_1 ?_
    refine lv_istore_n (lv' := [(1, .int b_sheetSet), (0, .ref (b 0))]) hx hb dX0_length_4 rfl hl (by decide) rfl (fun ls hl => ?_)
    refine lv_iconst (v := 0) hx hb dX0_length_5 (by decide) ?_
    refine lv_istore_n (lv' := [(2, .int 0), (1, .int b_sheetSet), (0, .ref (b 0))]) hx hb dX0_length_6 rfl hl (by decide) rfl (fun ls hl => ?_)
    obtain ⟨z5, hz5, hf⟩ := obd hf
    refine W7 4000 b_sheetSet 0 H locs ls z5 hP hS (lv_sub hl [2, 1, 0] rfl) hz5 (fun H locs ls hP hS hl => ?_)
    refine lv_iconst (v := (-1)) hx hb dX0_length_31 (by decide) ?_
    refine lv_istore_n (lv' := [(2, .int (-1)), (0, .ref (b 0)), (1, .int z5)]) hx hb dX0_length_32 rfl hl (by decide) rfl (fun ls hl => ?_)
    refine lv_iconst (v := 0) hx hb dX0_length_33 (by decide) ?_
    refine lv_istore_n (lv' := [(3, .int 0), (2, .int (-1)), (0, .ref (b 0)), (1, .int z5)]) hx hb dX0_length_34 rfl hl (by decide) rfl (fun ls hl => ?_)
    obtain ⟨z18, hz18, hf⟩ := obd hf
    refine W35 4000 z5 (-1) 0 H locs ls z18 hP hS (lv_sub hl [2, 3, 1, 0] rfl) hz18 (fun e19 ee H locs ls hP hS hl => ?_) (fun r9 er => by subst er; exact Option.some.inj hf)
    subst ee
    replace hf := osl hf
    refine lv_iload_n hx hb dX0_length_86 rfl (lv_at hl 1 rfl) ?_
    refine lv_if_le (tgt := 101) hx hb dX0_length_87 (by decide) (fun c20 => ?_) (fun c20 => ?_)
    · replace hf := oif c20 hf
      refine lv_iload_n hx hb dX0_length_101 rfl (lv_at hl 1 rfl) ?_
      have er := Option.some.inj hf
      exact rtI hx hb hr hS dX0_length_102 er hlocks
    · replace hf := oel c20 hf
      refine lv_aload_n hx hb dX0_length_90 rfl (lv_at hl 0 rfl) ?_
      obtain ⟨z21, hz21, hf⟩ := obd hf
      refine kZ (runV (As := []) (rest := []) C0 hE hAb hP (hDb.addr rfl) hS [0, 1, 3, 4] (wc := [oX0 b b_keyCount b_sheetSet b_handSort b_handNumber, aI cI (b 1) 6 b_kinds, aI cI (b 6) 4 b_keySlots, aI cI (b 7) 4 b_keyBys]) (by decide) rfl 0 rfl rfl (c_X0_keysCanRead l D cI cJ cZ cQ bs H.size b b_keyCount b_sheetSet b_handSort b_handNumber b_kinds b_keySlots b_keyBys z21 hz21) (cwV 0 hts gX0_length_X0_keysCanRead rfl rfl rfl (by decide +kernel) ⟨Nat.le_of_ble_eq_true rfl, Nat.le_of_ble_eq_true rfl⟩) rfl hl.1 rfl (Nat.le_of_ble_eq_true rfl) dX0_length_91 ⟨Nat.le_of_ble_eq_true rfl, Nat.le_of_ble_eq_true rfl⟩) hS hP (fun bz21 H locs hP hS => ?_)
      refine lv_if_ne (tgt := 101) hx hb dX0_length_94 (by decide) (fun c22 => ?_) (fun c22 => ?_)
      · replace hf := oel c22 hf
        refine lv_iload_n hx hb dX0_length_101 rfl (lv_at hl 1 rfl) ?_
        have er := Option.some.inj hf
        exact rtI hx hb hr hS dX0_length_102 er hlocks
      · replace hf := oif c22 hf
        refine lv_iconst (v := (-1)) hx hb dX0_length_97 (by decide) ?_
        refine lv_goto (tgt := 102) hx hb dX0_length_98 (by decide) ?_
        have er := Option.some.inj hf
        exact rtI hx hb hr hS dX0_length_102 er hlocks
  exact go s.heap [] hP hS
